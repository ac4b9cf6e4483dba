def iR (x y : Int32) : Int32 := x - x / y * y
def iU (x y : Int32) : Int32 := (x.toUInt32 >>> (y.toUInt32 &&& Int32.toUInt32 31)).toInt32
def lU (x : Int64) (y : Int32) : Int64 := (x.toUInt64 >>> (y.toInt64.toUInt64 &&& Int64.toUInt64 63)).toInt64
def lS (x : Int64) (y : Int32) : Int64 := x <<< (y.toInt64 &&& 63)
def iS (x y : Int32) : Int32 := x <<< (y &&& 31)
def iA (x y : Int32) : Int32 := x >>> (y &&& 31)
def ix (i : Int32) : Nat := i.toNatClampNeg
theorem V_iconst {G : Gm} {f : State → Prop} {own : String} {cc : ByteArray} {rt : Option FieldType} {pc : Nat} {lv : List (Nat × Value)} {st : List Value} {I : MI} {L : ML} {R : MR} (C0 : Cx G own cc rt) {n : Int} {v : Int32} (hv : Int32.ofInt n = v) (hd : decode cc pc = .ok (.iconst n, 1)) (k : V G f (pc + 1) lv (.int v :: st) I L R) : V G f pc lv st I L R :=
  fun H locs ls hP hS hl => lv_iconst C0.1 C0.2.1 hd hv (k H locs ls hP hS hl)
theorem V_bipush {G : Gm} {f : State → Prop} {own : String} {cc : ByteArray} {rt : Option FieldType} {pc : Nat} {lv : List (Nat × Value)} {st : List Value} {I : MI} {L : ML} {R : MR} (C0 : Cx G own cc rt) {n : Int} {v : Int32} (hv : (Int8.ofInt n).toInt32 = v) (hd : decode cc pc = .ok (.bipush n, 2)) (k : V G f (pc + 2) lv (.int v :: st) I L R) : V G f pc lv st I L R :=
  fun H locs ls hP hS hl => lv_bipush C0.1 C0.2.1 hd hv (k H locs ls hP hS hl)
theorem V_sipush {G : Gm} {f : State → Prop} {own : String} {cc : ByteArray} {rt : Option FieldType} {pc : Nat} {lv : List (Nat × Value)} {st : List Value} {I : MI} {L : ML} {R : MR} (C0 : Cx G own cc rt) {n : Int} {v : Int32} (hv : (Int16.ofInt n).toInt32 = v) (hd : decode cc pc = .ok (.sipush n, 3)) (k : V G f (pc + 3) lv (.int v :: st) I L R) : V G f pc lv st I L R :=
  fun H locs ls hP hS hl => lv_sipush C0.1 C0.2.1 hd hv (k H locs ls hP hS hl)
theorem V_lconst {G : Gm} {f : State → Prop} {own : String} {cc : ByteArray} {rt : Option FieldType} {pc : Nat} {lv : List (Nat × Value)} {st : List Value} {I : MI} {L : ML} {R : MR} (C0 : Cx G own cc rt) {n : Fin 2} {v : Int64} (hv : Int64.ofNat (n : Nat) = v) (hd : decode cc pc = .ok (.lconst n, 1)) (k : V G f (pc + 1) lv (.long v :: st) I L R) : V G f pc lv st I L R :=
  fun H locs ls hP hS hl => lv_lconst C0.1 C0.2.1 hd hv (k H locs ls hP hS hl)
theorem V_ldc {G : Gm} {f : State → Prop} {own : String} {cc : ByteArray} {rt : Option FieldType} {pc : Nat} {lv : List (Nat × Value)} {st : List Value} {I : MI} {L : ML} {R : MR} (C0 : Cx G own cc rt) {v : Int32} {index : Nat} (hw : Cond.constant own index v ∈ gW) (hd : decode cc pc = .ok (.ldc index, 2)) (k : V G f (pc + 2) lv (.int v :: st) I L R) : V G f pc lv st I L R :=
  fun H locs ls hP hS hl => lv_ldc C0.1 C0.2.1 C0.2.2.2.2.2.1 (C0.2.2.2.2.2.2.1 _ hw) hd (k H locs ls hP hS hl)
theorem V_iload_n {G : Gm} {f : State → Prop} {own : String} {cc : ByteArray} {rt : Option FieldType} {pc : Nat} {lv : List (Nat × Value)} {st : List Value} {I : MI} {L : ML} {R : MR} (C0 : Cx G own cc rt) {n : Fin 4} {i : Nat} {x : Int32} (q : Nat) (hi : (n : Nat) = i) (hq : lv[q]? = some (i, .int x)) (hd : decode cc pc = .ok (.iload_n n, 1)) (k : V G f (pc + 1) lv (.int x :: st) I L R) : V G f pc lv st I L R :=
  fun H locs ls hP hS hl => lv_iload_n C0.1 C0.2.1 hd hi (lv_at hl q hq) (k H locs ls hP hS hl)
theorem V_iload {G : Gm} {f : State → Prop} {own : String} {cc : ByteArray} {rt : Option FieldType} {pc : Nat} {lv : List (Nat × Value)} {st : List Value} {I : MI} {L : ML} {R : MR} (C0 : Cx G own cc rt) {i : Nat} {x : Int32} (q : Nat) (hq : lv[q]? = some (i, .int x)) (hd : decode cc pc = .ok (.iload i, 2)) (k : V G f (pc + 2) lv (.int x :: st) I L R) : V G f pc lv st I L R :=
  fun H locs ls hP hS hl => lv_iload C0.1 C0.2.1 hd (lv_at hl q hq) (k H locs ls hP hS hl)
theorem V_lload_n {G : Gm} {f : State → Prop} {own : String} {cc : ByteArray} {rt : Option FieldType} {pc : Nat} {lv : List (Nat × Value)} {st : List Value} {I : MI} {L : ML} {R : MR} (C0 : Cx G own cc rt) {n : Fin 4} {i : Nat} {x : Int64} (q : Nat) (hi : (n : Nat) = i) (hq : lv[q]? = some (i, .long x)) (hd : decode cc pc = .ok (.lload_n n, 1)) (k : V G f (pc + 1) lv (.long x :: st) I L R) : V G f pc lv st I L R :=
  fun H locs ls hP hS hl => lv_lload_n C0.1 C0.2.1 hd hi (lv_at hl q hq) (k H locs ls hP hS hl)
theorem V_lload {G : Gm} {f : State → Prop} {own : String} {cc : ByteArray} {rt : Option FieldType} {pc : Nat} {lv : List (Nat × Value)} {st : List Value} {I : MI} {L : ML} {R : MR} (C0 : Cx G own cc rt) {i : Nat} {x : Int64} (q : Nat) (hq : lv[q]? = some (i, .long x)) (hd : decode cc pc = .ok (.lload i, 2)) (k : V G f (pc + 2) lv (.long x :: st) I L R) : V G f pc lv st I L R :=
  fun H locs ls hP hS hl => lv_lload C0.1 C0.2.1 hd (lv_at hl q hq) (k H locs ls hP hS hl)
theorem V_aload_n {G : Gm} {f : State → Prop} {own : String} {cc : ByteArray} {rt : Option FieldType} {pc : Nat} {lv : List (Nat × Value)} {st : List Value} {I : MI} {L : ML} {R : MR} (C0 : Cx G own cc rt) {n : Fin 4} {i : Nat} {x : Nat} (q : Nat) (hi : (n : Nat) = i) (hq : lv[q]? = some (i, .ref x)) (hd : decode cc pc = .ok (.aload_n n, 1)) (k : V G f (pc + 1) lv (.ref x :: st) I L R) : V G f pc lv st I L R :=
  fun H locs ls hP hS hl => lv_aload_n C0.1 C0.2.1 hd hi (lv_at hl q hq) (k H locs ls hP hS hl)
theorem V_aload {G : Gm} {f : State → Prop} {own : String} {cc : ByteArray} {rt : Option FieldType} {pc : Nat} {lv : List (Nat × Value)} {st : List Value} {I : MI} {L : ML} {R : MR} (C0 : Cx G own cc rt) {i : Nat} {x : Nat} (q : Nat) (hq : lv[q]? = some (i, .ref x)) (hd : decode cc pc = .ok (.aload i, 2)) (k : V G f (pc + 2) lv (.ref x :: st) I L R) : V G f pc lv st I L R :=
  fun H locs ls hP hS hl => lv_aload C0.1 C0.2.1 hd (lv_at hl q hq) (k H locs ls hP hS hl)
theorem V_istore_n {G : Gm} {f : State → Prop} {own : String} {cc : ByteArray} {rt : Option FieldType} {pc : Nat} {lv : List (Nat × Value)} {st : List Value} {I : MI} {L : ML} {R : MR} (C0 : Cx G own cc rt) {n : Fin 4} {i : Nat} {x : Int32} (lv' : List (Nat × Value)) (hi : (n : Nat) = i) (hn : i < G.nL) (hl' : (i, Value.int x) :: lv.filter (fun q => !(q.1 == i) && !(q.1 + 1 == i && q.2.category == 2)) = lv') (hd : decode cc pc = .ok (.istore_n n, 1)) (k : V G f (pc + 1) lv' st I L R) : V G f pc lv (Value.int x :: st) I L R :=
  fun H locs ls hP hS hl => lv_istore_n C0.1 C0.2.1 hd hi hl hn hl' (fun ls hl => k H locs ls hP hS hl)
theorem V_istore {G : Gm} {f : State → Prop} {own : String} {cc : ByteArray} {rt : Option FieldType} {pc : Nat} {lv : List (Nat × Value)} {st : List Value} {I : MI} {L : ML} {R : MR} (C0 : Cx G own cc rt) {i : Nat} {x : Int32} (lv' : List (Nat × Value)) (hn : i < G.nL) (hl' : (i, Value.int x) :: lv.filter (fun q => !(q.1 == i) && !(q.1 + 1 == i && q.2.category == 2)) = lv') (hd : decode cc pc = .ok (.istore i, 2)) (k : V G f (pc + 2) lv' st I L R) : V G f pc lv (Value.int x :: st) I L R :=
  fun H locs ls hP hS hl => lv_istore C0.1 C0.2.1 hd hl hn hl' (fun ls hl => k H locs ls hP hS hl)
theorem V_lstore_n {G : Gm} {f : State → Prop} {own : String} {cc : ByteArray} {rt : Option FieldType} {pc : Nat} {lv : List (Nat × Value)} {st : List Value} {I : MI} {L : ML} {R : MR} (C0 : Cx G own cc rt) {n : Fin 4} {i : Nat} {x : Int64} (lv' : List (Nat × Value)) (hi : (n : Nat) = i) (hn : i + 1 < G.nL) (hl' : (i, Value.long x) :: lv.filter (fun q => !(q.1 == i) && (!(q.1 == i + 1) && !(q.1 + 1 == i && q.2.category == 2))) = lv') (hd : decode cc pc = .ok (.lstore_n n, 1)) (k : V G f (pc + 1) lv' st I L R) : V G f pc lv (Value.long x :: st) I L R :=
  fun H locs ls hP hS hl => lv_lstore_n C0.1 C0.2.1 hd hi hl hn hl' (fun ls hl => k H locs ls hP hS hl)
theorem V_lstore {G : Gm} {f : State → Prop} {own : String} {cc : ByteArray} {rt : Option FieldType} {pc : Nat} {lv : List (Nat × Value)} {st : List Value} {I : MI} {L : ML} {R : MR} (C0 : Cx G own cc rt) {i : Nat} {x : Int64} (lv' : List (Nat × Value)) (hn : i + 1 < G.nL) (hl' : (i, Value.long x) :: lv.filter (fun q => !(q.1 == i) && (!(q.1 == i + 1) && !(q.1 + 1 == i && q.2.category == 2))) = lv') (hd : decode cc pc = .ok (.lstore i, 2)) (k : V G f (pc + 2) lv' st I L R) : V G f pc lv (Value.long x :: st) I L R :=
  fun H locs ls hP hS hl => lv_lstore C0.1 C0.2.1 hd hl hn hl' (fun ls hl => k H locs ls hP hS hl)
theorem V_astore_n {G : Gm} {f : State → Prop} {own : String} {cc : ByteArray} {rt : Option FieldType} {pc : Nat} {lv : List (Nat × Value)} {st : List Value} {I : MI} {L : ML} {R : MR} (C0 : Cx G own cc rt) {n : Fin 4} {i : Nat} {x : Nat} (lv' : List (Nat × Value)) (hi : (n : Nat) = i) (hn : i < G.nL) (hl' : (i, Value.ref x) :: lv.filter (fun q => !(q.1 == i) && !(q.1 + 1 == i && q.2.category == 2)) = lv') (hd : decode cc pc = .ok (.astore_n n, 1)) (k : V G f (pc + 1) lv' st I L R) : V G f pc lv (Value.ref x :: st) I L R :=
  fun H locs ls hP hS hl => lv_astore_n C0.1 C0.2.1 hd hi hl hn hl' (fun ls hl => k H locs ls hP hS hl)
theorem V_astore {G : Gm} {f : State → Prop} {own : String} {cc : ByteArray} {rt : Option FieldType} {pc : Nat} {lv : List (Nat × Value)} {st : List Value} {I : MI} {L : ML} {R : MR} (C0 : Cx G own cc rt) {i : Nat} {x : Nat} (lv' : List (Nat × Value)) (hn : i < G.nL) (hl' : (i, Value.ref x) :: lv.filter (fun q => !(q.1 == i) && !(q.1 + 1 == i && q.2.category == 2)) = lv') (hd : decode cc pc = .ok (.astore i, 2)) (k : V G f (pc + 2) lv' st I L R) : V G f pc lv (Value.ref x :: st) I L R :=
  fun H locs ls hP hS hl => lv_astore C0.1 C0.2.1 hd hl hn hl' (fun ls hl => k H locs ls hP hS hl)
theorem V_iinc {G : Gm} {f : State → Prop} {own : String} {cc : ByteArray} {rt : Option FieldType} {pc : Nat} {lv : List (Nat × Value)} {st : List Value} {I : MI} {L : ML} {R : MR} (C0 : Cx G own cc rt) {i : Nat} {n : Int} {y x : Int32} (q : Nat) (lv' : List (Nat × Value)) (hq : lv[q]? = some (i, .int y)) (hv : y + Int32.ofInt n = x) (hn : i < G.nL) (hl' : (i, Value.int x) :: lv.filter (fun q => !(q.1 == i) && !(q.1 + 1 == i && q.2.category == 2)) = lv') (hd : decode cc pc = .ok (.iinc i n, 3)) (k : V G f (pc + 3) lv' st I L R) : V G f pc lv st I L R :=
  fun H locs ls hP hS hl => lv_iinc C0.1 C0.2.1 hd hl hq hv hn hl' (fun ls hl => k H locs ls hP hS hl)
theorem V_iadd {G : Gm} {f : State → Prop} {own : String} {cc : ByteArray} {rt : Option FieldType} {pc : Nat} {lv : List (Nat × Value)} {st : List Value} {I : MI} {L : ML} {R : MR} (C0 : Cx G own cc rt) {x y : Int32} (hd : decode cc pc = .ok (.iadd, 1)) (k : V G f (pc + 1) lv (.int (x + y) :: st) I L R) : V G f pc lv (.int y :: .int x :: st) I L R :=
  fun H locs ls hP hS hl => lv_iadd C0.1 C0.2.1 hd (k H locs ls hP hS hl)
theorem V_isub {G : Gm} {f : State → Prop} {own : String} {cc : ByteArray} {rt : Option FieldType} {pc : Nat} {lv : List (Nat × Value)} {st : List Value} {I : MI} {L : ML} {R : MR} (C0 : Cx G own cc rt) {x y : Int32} (hd : decode cc pc = .ok (.isub, 1)) (k : V G f (pc + 1) lv (.int (x - y) :: st) I L R) : V G f pc lv (.int y :: .int x :: st) I L R :=
  fun H locs ls hP hS hl => lv_isub C0.1 C0.2.1 hd (k H locs ls hP hS hl)
theorem V_imul {G : Gm} {f : State → Prop} {own : String} {cc : ByteArray} {rt : Option FieldType} {pc : Nat} {lv : List (Nat × Value)} {st : List Value} {I : MI} {L : ML} {R : MR} (C0 : Cx G own cc rt) {x y : Int32} (hd : decode cc pc = .ok (.imul, 1)) (k : V G f (pc + 1) lv (.int (x * y) :: st) I L R) : V G f pc lv (.int y :: .int x :: st) I L R :=
  fun H locs ls hP hS hl => lv_imul C0.1 C0.2.1 hd (k H locs ls hP hS hl)
theorem V_iand {G : Gm} {f : State → Prop} {own : String} {cc : ByteArray} {rt : Option FieldType} {pc : Nat} {lv : List (Nat × Value)} {st : List Value} {I : MI} {L : ML} {R : MR} (C0 : Cx G own cc rt) {x y : Int32} (hd : decode cc pc = .ok (.iand, 1)) (k : V G f (pc + 1) lv (.int (x &&& y) :: st) I L R) : V G f pc lv (.int y :: .int x :: st) I L R :=
  fun H locs ls hP hS hl => lv_iand C0.1 C0.2.1 hd (k H locs ls hP hS hl)
theorem V_ior {G : Gm} {f : State → Prop} {own : String} {cc : ByteArray} {rt : Option FieldType} {pc : Nat} {lv : List (Nat × Value)} {st : List Value} {I : MI} {L : ML} {R : MR} (C0 : Cx G own cc rt) {x y : Int32} (hd : decode cc pc = .ok (.ior, 1)) (k : V G f (pc + 1) lv (.int (x ||| y) :: st) I L R) : V G f pc lv (.int y :: .int x :: st) I L R :=
  fun H locs ls hP hS hl => lv_ior C0.1 C0.2.1 hd (k H locs ls hP hS hl)
theorem V_ixor {G : Gm} {f : State → Prop} {own : String} {cc : ByteArray} {rt : Option FieldType} {pc : Nat} {lv : List (Nat × Value)} {st : List Value} {I : MI} {L : ML} {R : MR} (C0 : Cx G own cc rt) {x y : Int32} (hd : decode cc pc = .ok (.ixor, 1)) (k : V G f (pc + 1) lv (.int (x ^^^ y) :: st) I L R) : V G f pc lv (.int y :: .int x :: st) I L R :=
  fun H locs ls hP hS hl => lv_ixor C0.1 C0.2.1 hd (k H locs ls hP hS hl)
theorem V_ishl {G : Gm} {f : State → Prop} {own : String} {cc : ByteArray} {rt : Option FieldType} {pc : Nat} {lv : List (Nat × Value)} {st : List Value} {I : MI} {L : ML} {R : MR} (C0 : Cx G own cc rt) {x y : Int32} (hd : decode cc pc = .ok (.ishl, 1)) (k : V G f (pc + 1) lv (.int (iS x y) :: st) I L R) : V G f pc lv (.int y :: .int x :: st) I L R :=
  fun H locs ls hP hS hl => lv_ishl C0.1 C0.2.1 hd (k H locs ls hP hS hl)
theorem V_ishr {G : Gm} {f : State → Prop} {own : String} {cc : ByteArray} {rt : Option FieldType} {pc : Nat} {lv : List (Nat × Value)} {st : List Value} {I : MI} {L : ML} {R : MR} (C0 : Cx G own cc rt) {x y : Int32} (hd : decode cc pc = .ok (.ishr, 1)) (k : V G f (pc + 1) lv (.int (iA x y) :: st) I L R) : V G f pc lv (.int y :: .int x :: st) I L R :=
  fun H locs ls hP hS hl => lv_ishr C0.1 C0.2.1 hd (k H locs ls hP hS hl)
theorem V_idiv {G : Gm} {f : State → Prop} {own : String} {cc : ByteArray} {rt : Option FieldType} {pc : Nat} {lv : List (Nat × Value)} {st : List Value} {I : MI} {L : ML} {R : MR} (C0 : Cx G own cc rt) {x y : Int32} (hne : ¬ y = 0) (hd : decode cc pc = .ok (.idiv, 1)) (k : V G f (pc + 1) lv (.int (x / y) :: st) I L R) : V G f pc lv (.int y :: .int x :: st) I L R :=
  fun H locs ls hP hS hl => lv_idiv C0.1 C0.2.1 hd hne (k H locs ls hP hS hl)
theorem V_irem {G : Gm} {f : State → Prop} {own : String} {cc : ByteArray} {rt : Option FieldType} {pc : Nat} {lv : List (Nat × Value)} {st : List Value} {I : MI} {L : ML} {R : MR} (C0 : Cx G own cc rt) {x y : Int32} (hne : ¬ y = 0) (hd : decode cc pc = .ok (.irem, 1)) (k : V G f (pc + 1) lv (.int (iR x y) :: st) I L R) : V G f pc lv (.int y :: .int x :: st) I L R :=
  fun H locs ls hP hS hl => lv_irem C0.1 C0.2.1 hd hne (k H locs ls hP hS hl)
theorem V_iushr {G : Gm} {f : State → Prop} {own : String} {cc : ByteArray} {rt : Option FieldType} {pc : Nat} {lv : List (Nat × Value)} {st : List Value} {I : MI} {L : ML} {R : MR} (C0 : Cx G own cc rt) {x y : Int32} (hd : decode cc pc = .ok (.iushr, 1)) (k : V G f (pc + 1) lv (.int (iU x y) :: st) I L R) : V G f pc lv (.int y :: .int x :: st) I L R :=
  fun H locs ls hP hS hl => lv_iushr C0.1 C0.2.1 hd rfl (k H locs ls hP hS hl)
theorem V_lushr {G : Gm} {f : State → Prop} {own : String} {cc : ByteArray} {rt : Option FieldType} {pc : Nat} {lv : List (Nat × Value)} {st : List Value} {I : MI} {L : ML} {R : MR} (C0 : Cx G own cc rt) {x : Int64} {y : Int32} (hd : decode cc pc = .ok (.lushr, 1)) (k : V G f (pc + 1) lv (.long (lU x y) :: st) I L R) : V G f pc lv (.int y :: .long x :: st) I L R :=
  fun H locs ls hP hS hl => lv_lushr C0.1 C0.2.1 hd rfl (k H locs ls hP hS hl)
theorem V_lshl {G : Gm} {f : State → Prop} {own : String} {cc : ByteArray} {rt : Option FieldType} {pc : Nat} {lv : List (Nat × Value)} {st : List Value} {I : MI} {L : ML} {R : MR} (C0 : Cx G own cc rt) {x : Int64} {y : Int32} (hd : decode cc pc = .ok (.lshl, 1)) (k : V G f (pc + 1) lv (.long (lS x y) :: st) I L R) : V G f pc lv (.int y :: .long x :: st) I L R :=
  fun H locs ls hP hS hl => lv_lshl C0.1 C0.2.1 hd rfl (k H locs ls hP hS hl)
theorem V_lor {G : Gm} {f : State → Prop} {own : String} {cc : ByteArray} {rt : Option FieldType} {pc : Nat} {lv : List (Nat × Value)} {st : List Value} {I : MI} {L : ML} {R : MR} (C0 : Cx G own cc rt) {x y : Int64} (hd : decode cc pc = .ok (.lor, 1)) (k : V G f (pc + 1) lv (.long (x ||| y) :: st) I L R) : V G f pc lv (.long y :: .long x :: st) I L R :=
  fun H locs ls hP hS hl => lv_lor C0.1 C0.2.1 hd (k H locs ls hP hS hl)
theorem V_lcmp {G : Gm} {f : State → Prop} {own : String} {cc : ByteArray} {rt : Option FieldType} {pc : Nat} {lv : List (Nat × Value)} {st : List Value} {I : MI} {L : ML} {R : MR} (C0 : Cx G own cc rt) {x y : Int64} (hd : decode cc pc = .ok (.lcmp, 1)) (k : V G f (pc + 1) lv (.int (lg_cmp x y) :: st) I L R) : V G f pc lv (.long y :: .long x :: st) I L R :=
  fun H locs ls hP hS hl => W.lcmp C0.1 C0.2.1 hd (k H locs ls hP hS hl)
theorem V_ineg {G : Gm} {f : State → Prop} {own : String} {cc : ByteArray} {rt : Option FieldType} {pc : Nat} {lv : List (Nat × Value)} {st : List Value} {I : MI} {L : ML} {R : MR} (C0 : Cx G own cc rt) {x : Int32} (hd : decode cc pc = .ok (.ineg, 1)) (k : V G f (pc + 1) lv (.int (-x) :: st) I L R) : V G f pc lv (.int x :: st) I L R :=
  fun H locs ls hP hS hl => lv_ineg C0.1 C0.2.1 hd (k H locs ls hP hS hl)
theorem V_i2l {G : Gm} {f : State → Prop} {own : String} {cc : ByteArray} {rt : Option FieldType} {pc : Nat} {lv : List (Nat × Value)} {st : List Value} {I : MI} {L : ML} {R : MR} (C0 : Cx G own cc rt) {x : Int32} (hd : decode cc pc = .ok (.i2l, 1)) (k : V G f (pc + 1) lv (.long x.toInt64 :: st) I L R) : V G f pc lv (.int x :: st) I L R :=
  fun H locs ls hP hS hl => lv_i2l C0.1 C0.2.1 hd rfl (k H locs ls hP hS hl)
theorem V_l2i {G : Gm} {f : State → Prop} {own : String} {cc : ByteArray} {rt : Option FieldType} {pc : Nat} {lv : List (Nat × Value)} {st : List Value} {I : MI} {L : ML} {R : MR} (C0 : Cx G own cc rt) {x : Int64} (hd : decode cc pc = .ok (.l2i, 1)) (k : V G f (pc + 1) lv (.int x.toInt32 :: st) I L R) : V G f pc lv (.long x :: st) I L R :=
  fun H locs ls hP hS hl => lv_l2i C0.1 C0.2.1 hd rfl (k H locs ls hP hS hl)
theorem V_dup {G : Gm} {f : State → Prop} {own : String} {cc : ByteArray} {rt : Option FieldType} {pc : Nat} {lv : List (Nat × Value)} {st : List Value} {I : MI} {L : ML} {R : MR} (C0 : Cx G own cc rt) {va : Value} (h1 : va.category = 1) (hd : decode cc pc = .ok (.dup, 1)) (k : V G f (pc + 1) lv (va :: va :: st) I L R) : V G f pc lv (va :: st) I L R :=
  fun H locs ls hP hS hl => lv_dup C0.1 C0.2.1 hd h1 (k H locs ls hP hS hl)
theorem V_dup_x1 {G : Gm} {f : State → Prop} {own : String} {cc : ByteArray} {rt : Option FieldType} {pc : Nat} {lv : List (Nat × Value)} {st : List Value} {I : MI} {L : ML} {R : MR} (C0 : Cx G own cc rt) {va vb : Value} (h1 : va.category = 1) (h2 : vb.category = 1) (hd : decode cc pc = .ok (.dup_x1, 1)) (k : V G f (pc + 1) lv (va :: vb :: va :: st) I L R) : V G f pc lv (va :: vb :: st) I L R :=
  fun H locs ls hP hS hl => lv_dup_x1 C0.1 C0.2.1 hd h1 h2 (k H locs ls hP hS hl)
theorem V_dup2 {G : Gm} {f : State → Prop} {own : String} {cc : ByteArray} {rt : Option FieldType} {pc : Nat} {lv : List (Nat × Value)} {st : List Value} {I : MI} {L : ML} {R : MR} (C0 : Cx G own cc rt) {va vb : Value} (h1 : va.category = 1) (h2 : vb.category = 1) (hd : decode cc pc = .ok (.dup2, 1)) (k : V G f (pc + 1) lv (va :: vb :: va :: vb :: st) I L R) : V G f pc lv (va :: vb :: st) I L R :=
  fun H locs ls hP hS hl => lv_dup2_11 C0.1 C0.2.1 hd h1 h2 (k H locs ls hP hS hl)
theorem V_pop {G : Gm} {f : State → Prop} {own : String} {cc : ByteArray} {rt : Option FieldType} {pc : Nat} {lv : List (Nat × Value)} {st : List Value} {I : MI} {L : ML} {R : MR} (C0 : Cx G own cc rt) {va : Value} (h1 : va.category = 1) (hd : decode cc pc = .ok (.pop, 1)) (k : V G f (pc + 1) lv st I L R) : V G f pc lv (va :: st) I L R :=
  fun H locs ls hP hS hl => lv_pop C0.1 C0.2.1 hd h1 (k H locs ls hP hS hl)
theorem V_goto {G : Gm} {f : State → Prop} {own : String} {cc : ByteArray} {rt : Option FieldType} {pc : Nat} {lv : List (Nat × Value)} {st : List Value} {I : MI} {L : ML} {R : MR} (C0 : Cx G own cc rt) {off : Int} {tgt : Nat} (ht : (pc : Int) + off = (tgt : Int)) (hd : decode cc pc = .ok (.goto off, 3)) (k : V G f tgt lv st I L R) : V G f pc lv st I L R :=
  fun H locs ls hP hS hl => lv_goto C0.1 C0.2.1 hd ht (k H locs ls hP hS hl)
theorem V_if_eq {G : Gm} {f : State → Prop} {own : String} {cc : ByteArray} {rt : Option FieldType} {pc : Nat} {lv : List (Nat × Value)} {st : List Value} {I : MI} {L : ML} {R : MR} (C0 : Cx G own cc rt) {x : Int32} {off : Int} {tgt : Nat} (ht : (pc : Int) + off = (tgt : Int)) (hd : decode cc pc = .ok (.ifCond .eq off, 3)) (kt : x = 0 → V G f tgt lv st I L R) (kf : ¬ x = 0 → V G f (pc + 3) lv st I L R) : V G f pc lv (.int x :: st) I L R :=
  fun H locs ls hP hS hl => lv_if_eq C0.1 C0.2.1 hd ht (fun h => kt h H locs ls hP hS hl) (fun h => kf h H locs ls hP hS hl)
theorem V_icmp_eq {G : Gm} {f : State → Prop} {own : String} {cc : ByteArray} {rt : Option FieldType} {pc : Nat} {lv : List (Nat × Value)} {st : List Value} {I : MI} {L : ML} {R : MR} (C0 : Cx G own cc rt) {x y : Int32} {off : Int} {tgt : Nat} (ht : (pc : Int) + off = (tgt : Int)) (hd : decode cc pc = .ok (.if_icmp .eq off, 3)) (kt : x = y → V G f tgt lv st I L R) (kf : ¬ x = y → V G f (pc + 3) lv st I L R) : V G f pc lv (.int y :: .int x :: st) I L R :=
  fun H locs ls hP hS hl => lv_icmp_eq C0.1 C0.2.1 hd ht (fun h => kt h H locs ls hP hS hl) (fun h => kf h H locs ls hP hS hl)
theorem V_if_ne {G : Gm} {f : State → Prop} {own : String} {cc : ByteArray} {rt : Option FieldType} {pc : Nat} {lv : List (Nat × Value)} {st : List Value} {I : MI} {L : ML} {R : MR} (C0 : Cx G own cc rt) {x : Int32} {off : Int} {tgt : Nat} (ht : (pc : Int) + off = (tgt : Int)) (hd : decode cc pc = .ok (.ifCond .ne off, 3)) (kt : ¬ x = 0 → V G f tgt lv st I L R) (kf : x = 0 → V G f (pc + 3) lv st I L R) : V G f pc lv (.int x :: st) I L R :=
  fun H locs ls hP hS hl => lv_if_ne C0.1 C0.2.1 hd ht (fun h => kt h H locs ls hP hS hl) (fun h => kf h H locs ls hP hS hl)
theorem V_icmp_ne {G : Gm} {f : State → Prop} {own : String} {cc : ByteArray} {rt : Option FieldType} {pc : Nat} {lv : List (Nat × Value)} {st : List Value} {I : MI} {L : ML} {R : MR} (C0 : Cx G own cc rt) {x y : Int32} {off : Int} {tgt : Nat} (ht : (pc : Int) + off = (tgt : Int)) (hd : decode cc pc = .ok (.if_icmp .ne off, 3)) (kt : ¬ x = y → V G f tgt lv st I L R) (kf : x = y → V G f (pc + 3) lv st I L R) : V G f pc lv (.int y :: .int x :: st) I L R :=
  fun H locs ls hP hS hl => lv_icmp_ne C0.1 C0.2.1 hd ht (fun h => kt h H locs ls hP hS hl) (fun h => kf h H locs ls hP hS hl)
theorem V_if_lt {G : Gm} {f : State → Prop} {own : String} {cc : ByteArray} {rt : Option FieldType} {pc : Nat} {lv : List (Nat × Value)} {st : List Value} {I : MI} {L : ML} {R : MR} (C0 : Cx G own cc rt) {x : Int32} {off : Int} {tgt : Nat} (ht : (pc : Int) + off = (tgt : Int)) (hd : decode cc pc = .ok (.ifCond .lt off, 3)) (kt : x < 0 → V G f tgt lv st I L R) (kf : ¬ x < 0 → V G f (pc + 3) lv st I L R) : V G f pc lv (.int x :: st) I L R :=
  fun H locs ls hP hS hl => lv_if_lt C0.1 C0.2.1 hd ht (fun h => kt h H locs ls hP hS hl) (fun h => kf h H locs ls hP hS hl)
theorem V_icmp_lt {G : Gm} {f : State → Prop} {own : String} {cc : ByteArray} {rt : Option FieldType} {pc : Nat} {lv : List (Nat × Value)} {st : List Value} {I : MI} {L : ML} {R : MR} (C0 : Cx G own cc rt) {x y : Int32} {off : Int} {tgt : Nat} (ht : (pc : Int) + off = (tgt : Int)) (hd : decode cc pc = .ok (.if_icmp .lt off, 3)) (kt : x < y → V G f tgt lv st I L R) (kf : ¬ x < y → V G f (pc + 3) lv st I L R) : V G f pc lv (.int y :: .int x :: st) I L R :=
  fun H locs ls hP hS hl => lv_icmp_lt C0.1 C0.2.1 hd ht (fun h => kt h H locs ls hP hS hl) (fun h => kf h H locs ls hP hS hl)
theorem V_if_ge {G : Gm} {f : State → Prop} {own : String} {cc : ByteArray} {rt : Option FieldType} {pc : Nat} {lv : List (Nat × Value)} {st : List Value} {I : MI} {L : ML} {R : MR} (C0 : Cx G own cc rt) {x : Int32} {off : Int} {tgt : Nat} (ht : (pc : Int) + off = (tgt : Int)) (hd : decode cc pc = .ok (.ifCond .ge off, 3)) (kt : 0 ≤ x → V G f tgt lv st I L R) (kf : ¬ 0 ≤ x → V G f (pc + 3) lv st I L R) : V G f pc lv (.int x :: st) I L R :=
  fun H locs ls hP hS hl => lv_if_ge C0.1 C0.2.1 hd ht (fun h => kt h H locs ls hP hS hl) (fun h => kf h H locs ls hP hS hl)
theorem V_icmp_ge {G : Gm} {f : State → Prop} {own : String} {cc : ByteArray} {rt : Option FieldType} {pc : Nat} {lv : List (Nat × Value)} {st : List Value} {I : MI} {L : ML} {R : MR} (C0 : Cx G own cc rt) {x y : Int32} {off : Int} {tgt : Nat} (ht : (pc : Int) + off = (tgt : Int)) (hd : decode cc pc = .ok (.if_icmp .ge off, 3)) (kt : y ≤ x → V G f tgt lv st I L R) (kf : ¬ y ≤ x → V G f (pc + 3) lv st I L R) : V G f pc lv (.int y :: .int x :: st) I L R :=
  fun H locs ls hP hS hl => lv_icmp_ge C0.1 C0.2.1 hd ht (fun h => kt h H locs ls hP hS hl) (fun h => kf h H locs ls hP hS hl)
theorem V_if_gt {G : Gm} {f : State → Prop} {own : String} {cc : ByteArray} {rt : Option FieldType} {pc : Nat} {lv : List (Nat × Value)} {st : List Value} {I : MI} {L : ML} {R : MR} (C0 : Cx G own cc rt) {x : Int32} {off : Int} {tgt : Nat} (ht : (pc : Int) + off = (tgt : Int)) (hd : decode cc pc = .ok (.ifCond .gt off, 3)) (kt : 0 < x → V G f tgt lv st I L R) (kf : ¬ 0 < x → V G f (pc + 3) lv st I L R) : V G f pc lv (.int x :: st) I L R :=
  fun H locs ls hP hS hl => lv_if_gt C0.1 C0.2.1 hd ht (fun h => kt h H locs ls hP hS hl) (fun h => kf h H locs ls hP hS hl)
theorem V_icmp_gt {G : Gm} {f : State → Prop} {own : String} {cc : ByteArray} {rt : Option FieldType} {pc : Nat} {lv : List (Nat × Value)} {st : List Value} {I : MI} {L : ML} {R : MR} (C0 : Cx G own cc rt) {x y : Int32} {off : Int} {tgt : Nat} (ht : (pc : Int) + off = (tgt : Int)) (hd : decode cc pc = .ok (.if_icmp .gt off, 3)) (kt : y < x → V G f tgt lv st I L R) (kf : ¬ y < x → V G f (pc + 3) lv st I L R) : V G f pc lv (.int y :: .int x :: st) I L R :=
  fun H locs ls hP hS hl => lv_icmp_gt C0.1 C0.2.1 hd ht (fun h => kt h H locs ls hP hS hl) (fun h => kf h H locs ls hP hS hl)
theorem V_if_le {G : Gm} {f : State → Prop} {own : String} {cc : ByteArray} {rt : Option FieldType} {pc : Nat} {lv : List (Nat × Value)} {st : List Value} {I : MI} {L : ML} {R : MR} (C0 : Cx G own cc rt) {x : Int32} {off : Int} {tgt : Nat} (ht : (pc : Int) + off = (tgt : Int)) (hd : decode cc pc = .ok (.ifCond .le off, 3)) (kt : x ≤ 0 → V G f tgt lv st I L R) (kf : ¬ x ≤ 0 → V G f (pc + 3) lv st I L R) : V G f pc lv (.int x :: st) I L R :=
  fun H locs ls hP hS hl => lv_if_le C0.1 C0.2.1 hd ht (fun h => kt h H locs ls hP hS hl) (fun h => kf h H locs ls hP hS hl)
theorem V_icmp_le {G : Gm} {f : State → Prop} {own : String} {cc : ByteArray} {rt : Option FieldType} {pc : Nat} {lv : List (Nat × Value)} {st : List Value} {I : MI} {L : ML} {R : MR} (C0 : Cx G own cc rt) {x y : Int32} {off : Int} {tgt : Nat} (ht : (pc : Int) + off = (tgt : Int)) (hd : decode cc pc = .ok (.if_icmp .le off, 3)) (kt : x ≤ y → V G f tgt lv st I L R) (kf : ¬ x ≤ y → V G f (pc + 3) lv st I L R) : V G f pc lv (.int y :: .int x :: st) I L R :=
  fun H locs ls hP hS hl => lv_icmp_le C0.1 C0.2.1 hd ht (fun h => kt h H locs ls hP hS hl) (fun h => kf h H locs ls hP hS hl)
theorem V_tableOut {G : Gm} {f : State → Prop} {own : String} {cc : ByteArray} {rt : Option FieldType} {pc : Nat} {lv : List (Nat × Value)} {st : List Value} {I : MI} {L : ML} {R : MR} (C0 : Cx G own cc rt) {dflt lo hi : Int} {offs : Array Int} {len : Nat} {x : Int32} {tgt : Nat} (h : x.toInt < lo ∨ hi < x.toInt) (ht : (pc : Int) + dflt = (tgt : Int)) (hd : decode cc pc = .ok (.tableswitch dflt lo hi offs, len)) (k : V G f tgt lv st I L R) : V G f pc lv (.int x :: st) I L R :=
  fun H locs ls hP hS hl => lv_tableOut C0.1 C0.2.1 hd h ht (k H locs ls hP hS hl)
theorem V_tableIn {G : Gm} {f : State → Prop} {own : String} {cc : ByteArray} {rt : Option FieldType} {pc : Nat} {lv : List (Nat × Value)} {st : List Value} {I : MI} {L : ML} {R : MR} (C0 : Cx G own cc rt) {dflt lo hi : Int} {offs : Array Int} {len : Nat} {x : Int32} {off : Int} {tgt : Nat} (h1 : ¬ x.toInt < lo) (h2 : ¬ hi < x.toInt) (ho : offs[(x.toInt - lo).toNat]? = some off) (ht : (pc : Int) + off = (tgt : Int)) (hd : decode cc pc = .ok (.tableswitch dflt lo hi offs, len)) (k : V G f tgt lv st I L R) : V G f pc lv (.int x :: st) I L R :=
  fun H locs ls hP hS hl => lv_tableIn C0.1 C0.2.1 hd h1 h2 ho ht (k H locs ls hP hS hl)
theorem V_lookup {G : Gm} {f : State → Prop} {own : String} {cc : ByteArray} {rt : Option FieldType} {pc : Nat} {lv : List (Nat × Value)} {st : List Value} {I : MI} {L : ML} {R : MR} (C0 : Cx G own cc rt) {dflt : Int} {ps : Array (Int × Int)} {len : Nat} {x : Int32} {off : Int} {tgt : Nat} (hp : (ps.toList.zip (ps.toList.drop 1)).all (fun (a, next) => a.1 < next.1) = true) (ho : Op.lookupswitch.offset ps.toList dflt x.toInt = off) (ht : (pc : Int) + off = (tgt : Int)) (hd : decode cc pc = .ok (.lookupswitch dflt ps, len)) (k : V G f tgt lv st I L R) : V G f pc lv (.int x :: st) I L R :=
  fun H locs ls hP hS hl => lv_lookup C0.1 C0.2.1 hd hp ho ht (k H locs ls hP hS hl)
/-- a field by its pool entry: the class's number, the field's place -/
def FLk (own : String) (index ci k : Nat) : Prop := ∃ q : vw_C, vwCl[ci]? = some q ∧ k < q.2.2 ∧ (Cond.fieldLink own index (q.2.1 k).1 (q.2.1 k).2.1 (q.2.1 k).2.2.1 ∈ gW ∨ ∃ host, Cond.fieldLinkNest own index (q.2.1 k).1 (q.2.1 k).2.1 (q.2.1 k).2.2.1 host ∈ nW)
/-- the same of a field that isn't final, with its descriptor -/
def FPk (own : String) (index ci k : Nat) (d : String) : Prop := ∃ q : vw_C, vwCl[ci]? = some q ∧ k < q.2.2 ∧ (q.2.1 k).2.2.2 = false ∧ (q.2.1 k).2.2.1 = d ∧ (Cond.fieldLink own index (q.2.1 k).1 (q.2.1 k).2.1 (q.2.1 k).2.2.1 ∈ gW ∨ ∃ host, Cond.fieldLinkNest own index (q.2.1 k).1 (q.2.1 k).2.1 (q.2.1 k).2.2.1 host ∈ nW)
theorem isN_tab {w : Cond} (hw : w ∈ nW) : w.onTables = true := by
  have h1 : isN w = true := (List.mem_filter.mp hw).2
  cases w <;> first | rfl | (simp [isN] at h1)
theorem gW_in (w : Cond) (h : w ∈ lw_tbl) (hg : goodWord w = true) : w ∈ gW := List.mem_filter.mpr ⟨h, hg⟩
theorem nW_in (w : Cond) (h : w ∈ lw_tbl) (hg : isN w = true) : w ∈ nW := List.mem_filter.mpr ⟨h, hg⟩
theorem clOk {ci : Nat} {q : vw_C} (h : vwCl[ci]? = some q) : (∀ w ∈ u_ws q.1 q.2.1 q.2.2, w ∈ gW) ∧ (∃ ty : Nat → FieldType, ∀ k, k < q.2.2 → parseFieldDescriptor (q.2.1 k).2.2.1 = some (ty k)) ∧ ∀ a, a < q.2.2 → ∀ b, b < q.2.2 → a ≠ b → (q.2.1 a).2.1 ≠ (q.2.1 b).2.1 := by
  have key : ∀ C T N, (u_ws C T N).all (fun w => decide (w ∈ lw_tbl) && goodWord w) = true → ∀ w ∈ u_ws C T N, w ∈ gW := by
    intro C T N h w hw
    have h1 := List.all_eq_true.mp h w hw
    simp only [Bool.and_eq_true, decide_eq_true_eq] at h1
    exact gW_in w h1.1 h1.2
  match ci, h with
  | 0, h => cases h; exact ⟨key _ _ _ (by decide +kernel), ⟨_, tyX0_ok⟩, nmX0⟩
  | 1, h => cases h; exact ⟨key _ _ _ (by decide +kernel), ⟨_, tyX1_ok⟩, nmX1⟩
  | 2, h => cases h; exact ⟨key _ _ _ (by decide +kernel), ⟨_, tyX2_ok⟩, nmX2⟩
  | 3, h => cases h; exact ⟨key _ _ _ (by decide +kernel), ⟨_, tyX3_ok⟩, nmX3⟩
  | 4, h => cases h; exact ⟨key _ _ _ (by decide +kernel), ⟨_, tyX5_ok⟩, nmX5⟩
  | 5, h => cases h; exact ⟨key _ _ _ (by decide +kernel), ⟨_, tyX6_ok⟩, nmX6⟩
  | 6, h => cases h; exact ⟨key _ _ _ (by decide +kernel), ⟨_, tyX7_ok⟩, nmX7⟩
  | 7, h => cases h; exact ⟨key _ _ _ (by decide +kernel), ⟨_, tyX8_ok⟩, nmX8⟩
  | 8, h => cases h; exact ⟨key _ _ _ (by decide +kernel), ⟨_, tyX9_ok⟩, nmX9⟩
  | 9, h => cases h; exact ⟨key _ _ _ (by decide +kernel), ⟨_, tyX10_ok⟩, nmX10⟩
  | 10, h => cases h; exact ⟨key _ _ _ (by decide +kernel), ⟨_, tyX11_ok⟩, nmX11⟩
  | 11, h => cases h; exact ⟨key _ _ _ (by decide +kernel), ⟨_, tyX12_ok⟩, nmX12⟩
  | n + 12, h => simp [vwCl] at h
theorem ce_obj {cA : Nat → ClassId} {ad : Nat → Nat} {I : MI} {L : ML} {R : MR} {id ci : Nat} (h : kd id = ci) (h1 : ci < 12) : ce cA ad I L R id = .inr (ci, fl ad I L R id (sg.getD ci [])) := by
  simp [ce, h, h1]
theorem vwCl_lt {ci : Nat} {q : vw_C} (h : vwCl[ci]? = some q) : ci < 12 := (List.getElem?_eq_some_iff.mp h).1
theorem V_get {G : Gm} {f : State → Prop} {own : String} {cc : ByteArray} {rt : Option FieldType} {pc : Nat} {lv : List (Nat × Value)} {st : List Value} {I : MI} {L : ML} {R : MR} (C0 : Cx G own cc rt) {index ci k t o : Nat} (hf : FLk own index ci k) (ho : o < NN) (hk : kd o = ci) (ht : (sg.getD ci [])[k]? = some t) (hd : decode cc pc = .ok (.getfield index, 3)) (kk : V G f (pc + 3) lv (fv G.ad I L R o k t :: st) I L R) : V G f pc lv (.ref (G.ad o) :: st) I L R := by
  intro H locs ls hP hS hl
  obtain ⟨hx, hb, -, -, -, hown, hts, hK, hN, -, -, -, -⟩ := C0
  obtain ⟨q, hq, hkN, hlk⟩ := hf
  obtain ⟨hin, -, -⟩ := clOk hq
  have he : (wl G.cA G.ad I L R)[o]? = some (G.ad o, .inr (ci, fl G.ad I L R o (sg.getD ci []))) := by rw [wl_at ho, ce_obj hk (vwCl_lt hq)]
  rcases hlk with h | ⟨host, h⟩
  · exact va_get hx hb hts hin hown hK hP o he hq k hkN (hts _ h) (fun _ z => z) (fl_at ht) hd (kk H locs ls hP hS hl)
  · exact va_getN hx hb hts hin hown hK hP o he hq k hkN (va_Nw.use (isN_tab h) (hN _ h)) (fun _ z => z) (fl_at ht) hd (kk H locs ls hP hS hl)
theorem V_getI {G : Gm} {f : State → Prop} {own : String} {cc : ByteArray} {rt : Option FieldType} {pc : Nat} {lv : List (Nat × Value)} {st : List Value} {I : MI} {L : ML} {R : MR} (C0 : Cx G own cc rt) {index o : Nat} (ci k : Nat) (hf : FLk own index ci k) (ho : o < NN) (hk : kd o = ci) (ht : (sg.getD ci [])[k]? = some 0) (hd : decode cc pc = .ok (.getfield index, 3)) (kk : V G f (pc + 3) lv (.int (I o k) :: st) I L R) : V G f pc lv (.ref (G.ad o) :: st) I L R := V_get C0 hf ho hk ht hd kk
theorem V_getL {G : Gm} {f : State → Prop} {own : String} {cc : ByteArray} {rt : Option FieldType} {pc : Nat} {lv : List (Nat × Value)} {st : List Value} {I : MI} {L : ML} {R : MR} (C0 : Cx G own cc rt) {index o : Nat} (ci k : Nat) (hf : FLk own index ci k) (ho : o < NN) (hk : kd o = ci) (ht : (sg.getD ci [])[k]? = some 1) (hd : decode cc pc = .ok (.getfield index, 3)) (kk : V G f (pc + 3) lv (.long (L o k) :: st) I L R) : V G f pc lv (.ref (G.ad o) :: st) I L R := V_get C0 hf ho hk ht hd kk
theorem V_getR {G : Gm} {f : State → Prop} {own : String} {cc : ByteArray} {rt : Option FieldType} {pc : Nat} {lv : List (Nat × Value)} {st : List Value} {I : MI} {L : ML} {R : MR} (C0 : Cx G own cc rt) {index o a : Nat} (ci k : Nat) (hf : FLk own index ci k) (ho : o < NN) (hk : kd o = ci) (ht : (sg.getD ci [])[k]? = some 2) (ha : R o k = some a) (hd : decode cc pc = .ok (.getfield index, 3)) (kk : V G f (pc + 3) lv (.ref (G.ad a) :: st) I L R) : V G f pc lv (.ref (G.ad o) :: st) I L R := by
  refine V_get C0 hf ho hk ht hd ?_
  have e : fv G.ad I L R o k 2 = .ref (G.ad a) := by simp [fv, ha, va_rf]
  rw [e]
  exact kk
theorem V_put {G : Gm} {f : State → Prop} {own : String} {cc : ByteArray} {rt : Option FieldType} {pc : Nat} {lv : List (Nat × Value)} {st : List Value} {I : MI} {L : ML} {R : MR} (C0 : Cx G own cc rt) {index ci k o : Nat} {d : String} {ty : FieldType} {v : Value} {I' : MI} {L' : ML} {R' : MR} (hf : FPk own index ci k d) (ho : o < NN) (hk : kd o = ci) (hlen : k < (sg.getD ci []).length) (hty : parseFieldDescriptor d = some ty) (hn : narrow ty v = v) (hfit : fits ty v = true)
    (hI : ∀ j, j ≠ o → I' j = I j) (hL : ∀ j, j ≠ o → L' j = L j) (hR : ∀ j, j ≠ o → R' j = R j) (hv : ∀ t, (sg.getD ci [])[k]? = some t → fv G.ad I' L' R' o k t = v) (hov : ∀ j t, j ≠ k → fv G.ad I' L' R' o j t = fv G.ad I L R o j t)
    (hd : decode cc pc = .ok (.putfield index, 3)) (kk : V G f (pc + 3) lv st I' L' R') : V G f pc lv (v :: .ref (G.ad o) :: st) I L R := by
  intro H locs ls hP hS hl
  obtain ⟨hx, hb, -, -, -, hown, hts, hK, hN, hAd, -, -, -⟩ := C0
  obtain ⟨q, hq, hkN, hfin, hde, hlk⟩ := hf
  obtain ⟨hin, ⟨ty0, hty0⟩, hnm⟩ := clOk hq
  have he : (wl G.cA G.ad I L R)[o]? = some (G.ad o, .inr (ci, fl G.ad I L R o (sg.getD ci []))) := by rw [wl_at ho, ce_obj hk (vwCl_lt hq)]
  have hD : va_D (Ab G.bs) (wl G.cA G.ad I L R) := wl_D hAd
  have hset : (wl G.cA G.ad I L R).set o (G.ad o, .inr (ci, (fl G.ad I L R o (sg.getD ci [])).set k v)) = wl G.cA G.ad I' L' R' := wl_set (by rw [ce_obj hk (vwCl_lt hq), fl_set hv hov]) (fun j hj => ce_congr (hI j hj) (hL j hj) (hR j hj))
  have hlf : k < (fl G.ad I L R o (sg.getD ci [])).length := by simpa [fl] using hlen
  rcases hlk with h | ⟨host, h⟩
  · exact va_put hx hb hts hin ty0 hty0 hnm hown hK hP hD hS o he hq k hkN (hts _ h) (fun _ z => z) hfin (by rw [hde]; exact hty) hn hfit hlf hd (fun H1 locs1 hP1 _ hS1 => kk H1 locs1 ls (by rw [hset] at hP1; exact hP1) hS1 hl)
  · exact va_putN hx hb hts hin ty0 hty0 hnm hown hK hP hD hS o he hq k hkN (va_Nw.use (isN_tab h) (hN _ h)) (fun _ z => z) hfin (by rw [hde]; exact hty) hn hfit hlf hd (fun H1 locs1 hP1 _ hS1 => kk H1 locs1 ls (by rw [hset] at hP1; exact hP1) hS1 hl)
theorem V_putI {G : Gm} {f : State → Prop} {own : String} {cc : ByteArray} {rt : Option FieldType} {pc : Nat} {lv : List (Nat × Value)} {st : List Value} {I : MI} {L : ML} {R : MR} (C0 : Cx G own cc rt) {index o : Nat} {x : Int32} (ci k : Nat) (hf : FPk own index ci k "I") (ho : o < NN) (hk : kd o = ci) (ht : (sg.getD ci [])[k]? = some 0) (hd : decode cc pc = .ok (.putfield index, 3)) (kk : V G f (pc + 3) lv st (uI I o k x) L R) : V G f pc lv (.int x :: .ref (G.ad o) :: st) I L R := by
  refine V_put C0 hf ho hk (List.getElem?_eq_some_iff.mp ht).1 (ty := .int) rfl rfl rfl (fun j hj => uI_ne hj) (fun _ _ => rfl) (fun _ _ => rfl) (fun t h => ?_) (fun j t hj => ?_) hd kk
  · rw [ht] at h
    cases h
    simp [fv, uI]
  · simp [fv, uI, hj]
theorem V_putZ {G : Gm} {f : State → Prop} {own : String} {cc : ByteArray} {rt : Option FieldType} {pc : Nat} {lv : List (Nat × Value)} {st : List Value} {I : MI} {L : ML} {R : MR} (C0 : Cx G own cc rt) {index o : Nat} {x : Int32} (ci k : Nat) (hf : FPk own index ci k "Z") (ho : o < NN) (hk : kd o = ci) (ht : (sg.getD ci [])[k]? = some 0) (hx01 : x = 0 ∨ x = 1) (hd : decode cc pc = .ok (.putfield index, 3)) (kk : V G f (pc + 3) lv st (uI I o k x) L R) : V G f pc lv (.int x :: .ref (G.ad o) :: st) I L R := by
  refine V_put C0 hf ho hk (List.getElem?_eq_some_iff.mp ht).1 (ty := .boolean) rfl ?_ ?_ (fun j hj => uI_ne hj) (fun _ _ => rfl) (fun _ _ => rfl) (fun t h => ?_) (fun j t hj => ?_) hd kk
  · rcases hx01 with rfl | rfl <;> decide
  · rcases hx01 with rfl | rfl <;> decide
  · rw [ht] at h
    cases h
    simp [fv, uI]
  · simp [fv, uI, hj]
theorem V_putL {G : Gm} {f : State → Prop} {own : String} {cc : ByteArray} {rt : Option FieldType} {pc : Nat} {lv : List (Nat × Value)} {st : List Value} {I : MI} {L : ML} {R : MR} (C0 : Cx G own cc rt) {index o : Nat} {x : Int64} (ci k : Nat) (hf : FPk own index ci k "J") (ho : o < NN) (hk : kd o = ci) (ht : (sg.getD ci [])[k]? = some 1) (hd : decode cc pc = .ok (.putfield index, 3)) (kk : V G f (pc + 3) lv st I (uL L o k x) R) : V G f pc lv (.long x :: .ref (G.ad o) :: st) I L R := by
  refine V_put C0 hf ho hk (List.getElem?_eq_some_iff.mp ht).1 (ty := .long) rfl rfl rfl (fun _ _ => rfl) (fun j hj => uL_ne hj) (fun _ _ => rfl) (fun t h => ?_) (fun j t hj => ?_) hd kk
  · rw [ht] at h
    cases h
    simp [fv, uL]
  · simp [fv, uL, hj]
theorem V_putR {G : Gm} {f : State → Prop} {own : String} {cc : ByteArray} {rt : Option FieldType} {pc : Nat} {lv : List (Nat × Value)} {st : List Value} {I : MI} {L : ML} {R : MR} (C0 : Cx G own cc rt) {index o a : Nat} {d : String} (nm : String) (ci k : Nat) (hf : FPk own index ci k d) (hty : parseFieldDescriptor d = some (.object nm)) (ho : o < NN) (hk : kd o = ci) (ht : (sg.getD ci [])[k]? = some 2) (hd : decode cc pc = .ok (.putfield index, 3)) (kk : V G f (pc + 3) lv st I L (uR R o k (some a))) : V G f pc lv (.ref (G.ad a) :: .ref (G.ad o) :: st) I L R := by
  refine V_put C0 hf ho hk (List.getElem?_eq_some_iff.mp ht).1 hty rfl rfl (fun _ _ => rfl) (fun _ _ => rfl) (fun j hj => uR_ne hj) (fun t h => ?_) (fun j t hj => ?_) hd kk
  · rw [ht] at h
    cases h
    simp [fv, uR, va_rf]
  · simp [fv, uR, hj]
