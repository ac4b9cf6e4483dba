/-! What the functions are made of, and their rows -/
def wr {α β : Type} (x : α) (g : α → β) : β := g x
def bn0 {γ : Type} (x : Option Unit) (g : Unit → Option γ) : Option γ := x.bind g
def bn1 {α γ : Type} (x : Option α) (g : α → Option γ) : Option γ := x.bind g
def bn2 {α β γ : Type} (x : Option (α × β)) (g : α → β → Option γ) : Option γ := x.bind fun q => g q.1 q.2
def bn3 {α β δ γ : Type} (x : Option (α × β × δ)) (g : α → β → δ → Option γ) : Option γ := x.bind fun q => g q.1 q.2.1 q.2.2
def bn4 {α β δ ε γ : Type} (x : Option (α × β × δ × ε)) (g : α → β → δ → ε → Option γ) : Option γ := x.bind fun q => g q.1 q.2.1 q.2.2.1 q.2.2.2
def bn5 {α β δ ε ζ γ : Type} (x : Option (α × β × δ × ε × ζ)) (g : α → β → δ → ε → ζ → Option γ) : Option γ := x.bind fun q => g q.1 q.2.1 q.2.2.1 q.2.2.2.1 q.2.2.2.2
def bsm {α β γ : Type} (x : Option (Sum α β)) (g1 : α → Option γ) (g2 : β → Option γ) : Option γ := match x with
  | none => none
  | some (.inl a) => g1 a
  | some (.inr b) => g2 b
theorem wr_some {α β : Type} {x : α} {g : α → β} {r : β} (h : wr x g = r) : ∃ a, a = x ∧ g a = r := ⟨x, rfl, h⟩
theorem bnd_some {α γ : Type} {x : Option α} {g : α → Option γ} {r : γ} (h : x.bind g = some r) : ∃ a, x = some a ∧ g a = some r := by
  cases x with
  | none => cases h
  | some a => exact ⟨a, rfl, h⟩
theorem bn0_some {γ : Type} {x : Option Unit} {g : Unit → Option γ} {r : γ} (h : bn0 x g = some r) : x = some () ∧ g () = some r := by
  cases x with
  | none => cases h
  | some a => exact ⟨rfl, h⟩
theorem bn1_some {α γ : Type} {x : Option α} {g : α → Option γ} {r : γ} (h : bn1 x g = some r) : ∃ a, x = some a ∧ g a = some r := bnd_some h
theorem bn2_some {α β γ : Type} {x : Option (α × β)} {g : α → β → Option γ} {r : γ} (h : bn2 x g = some r) : ∃ a b, x = some (a, b) ∧ g a b = some r := by
  obtain ⟨⟨a, b⟩, h1, h2⟩ := bnd_some h
  exact ⟨a, b, h1, h2⟩
theorem bn3_some {α β δ γ : Type} {x : Option (α × β × δ)} {g : α → β → δ → Option γ} {r : γ} (h : bn3 x g = some r) : ∃ a b c, x = some (a, b, c) ∧ g a b c = some r := by
  obtain ⟨⟨a, b, c⟩, h1, h2⟩ := bnd_some h
  exact ⟨a, b, c, h1, h2⟩
theorem bn4_some {α β δ ε γ : Type} {x : Option (α × β × δ × ε)} {g : α → β → δ → ε → Option γ} {r : γ} (h : bn4 x g = some r) : ∃ a b c d, x = some (a, b, c, d) ∧ g a b c d = some r := by
  obtain ⟨⟨a, b, c, d⟩, h1, h2⟩ := bnd_some h
  exact ⟨a, b, c, d, h1, h2⟩
theorem bn5_some {α β δ ε ζ γ : Type} {x : Option (α × β × δ × ε × ζ)} {g : α → β → δ → ε → ζ → Option γ} {r : γ} (h : bn5 x g = some r) : ∃ a b c d e, x = some (a, b, c, d, e) ∧ g a b c d e = some r := by
  obtain ⟨⟨a, b, c, d, e⟩, h1, h2⟩ := bnd_some h
  exact ⟨a, b, c, d, e, h1, h2⟩
theorem bsm_some {α β γ : Type} {x : Option (Sum α β)} {g1 : α → Option γ} {g2 : β → Option γ} {r : γ} (h : bsm x g1 g2 = some r) : (∃ a, x = some (.inl a) ∧ g1 a = some r) ∨ ∃ b, x = some (.inr b) ∧ g2 b = some r := by
  match x, h with
  | none, h => cases h
  | some (.inl a), h => exact Or.inl ⟨a, rfl, h⟩
  | some (.inr b), h => exact Or.inr ⟨b, rfl, h⟩
theorem ite_none {γ : Type} {c : Prop} {d : Decidable c} {A : Option γ} {r : γ} (h : (@ite _ c d none A) = some r) : ¬ c ∧ A = some r := by
  by_cases q : c
  · rw [if_pos q] at h
    cases h
  · rw [if_neg q] at h
    exact ⟨q, h⟩
theorem ite_some {γ : Type} {c : Prop} {d : Decidable c} {A : Option γ} {r : γ} (h : (@ite _ c d A none) = some r) : c ∧ A = some r := by
  by_cases q : c
  · rw [if_pos q] at h
    exact ⟨q, h⟩
  · rw [if_neg q] at h
    cases h
theorem b2i01 (b : Bool) : b2i b = 0 ∨ b2i b = 1 := by cases b <;> simp [b2i]
def inb (i : Int32) (n : Nat) : Bool := !(decide (i < 0)) && decide (i.toNatClampNeg < n)
theorem inb_in {i : Int32} {n : Nat} (h : inb i n = true) : vp_in i n := by
  simp only [inb, Bool.and_eq_true, Bool.not_eq_true', decide_eq_false_iff_not, decide_eq_true_eq] at h
  rintro (q | q)
  · exact h.1 q
  · omega
/-- reads and writes that look first -/
def rf (R : MR) (o k c : Nat) : Option Nat := (R o k).bind fun a => if kd a = c ∧ a < NN then some a else none
def ra (R : MR) (a : Nat) (i : Int32) (c : Nat) : Option Nat := if inb i (ln a) = true then rf R a (ix i) c else none
def ri (I : MI) (a : Nat) (i : Int32) : Option Int32 := if inb i (ln a) = true then some (I a (ix i)) else none
def rl (L : ML) (a : Nat) (i : Int32) : Option Int64 := if inb i (ln a) = true then some (L a (ix i)) else none
def wi (I : MI) (a : Nat) (i x : Int32) : Option MI := if inb i (ln a) = true then some (uI I a (ix i) x) else none
def wz (I : MI) (a : Nat) (i x : Int32) : Option MI := if inb i (ln a) = true ∧ (x = 0 ∨ x = 1) then some (uI I a (ix i) x) else none
def wg (L : ML) (a : Nat) (i : Int32) (x : Int64) : Option ML := if inb i (ln a) = true then some (uL L a (ix i) x) else none
def z01 (x : Int32) : Option Bool := if x = 0 then some false else if x = 1 then some true else none
theorem z01_b {x : Int32} {b : Bool} (h : z01 x = some b) : x = b2i b := by
  unfold z01 at h
  split at h
  · cases h; rename_i q; rw [q]; rfl
  · split at h
    · cases h; rename_i q; rw [q]; rfl
    · cases h
theorem z01_or {x : Int32} {b : Bool} (h : z01 x = some b) : x = 0 ∨ x = 1 := by rw [z01_b h]; exact b2i01 b
theorem rf_ok {R : MR} {o k c a : Nat} (h : rf R o k c = some a) : R o k = some a ∧ kd a = c ∧ a < NN := by
  obtain ⟨a', h1, h2⟩ := bnd_some h
  obtain ⟨h3, h4⟩ := ite_some h2
  cases h4
  exact ⟨h1, h3⟩
theorem rf_at {R : MR} {o k c a : Nat} (h : rf R o k c = some a) : R o k = some a := (rf_ok h).1
theorem rf_kd {R : MR} {o k c a : Nat} (h : rf R o k c = some a) : kd a = c := (rf_ok h).2.1
theorem rf_lt {R : MR} {o k c a : Nat} (h : rf R o k c = some a) : a < NN := (rf_ok h).2.2
theorem ra_kd {R : MR} {o c a : Nat} {i : Int32} (h : ra R o i c = some a) : kd a = c := rf_kd (ite_some h).2
theorem ra_lt {R : MR} {o c a : Nat} {i : Int32} (h : ra R o i c = some a) : a < NN := rf_lt (ite_some h).2
theorem nd_0 (x : Int32) : ∀ q ∈ ([] : List Int32), ¬ x = q := fun _ h => nomatch h
theorem nd_add {x v : Int32} {vs : List Int32} (h : ∀ q ∈ vs, ¬ x = q) (h1 : ¬ x = v) : ∀ q ∈ v :: vs, ¬ x = q := by
  intro q hq
  rcases List.mem_cons.mp hq with rfl | h2
  · exact h1
  · exact h q h2
section VB
variable {G : Gm} {f : State → Prop} {own : String} {cc : ByteArray} {rt : Option FieldType} {pc : Nat} {lv : List (Nat × Value)} {st : List Value} {I : MI} {L : ML} {R : MR}
theorem V_ri (C0 : Cx G own cc rt) {o : Nat} {i v : Int32} (ho : o < NN) (hk : kd o = 20) (h : ri I o i = some v) (hd : decode cc pc = .ok (.iaload, 1)) (k : V G f (pc + 1) lv (.int v :: st) I L R) : V G f pc lv (.int i :: .ref (G.ad o) :: st) I L R := by
  obtain ⟨h1, h2⟩ := ite_some h
  cases h2
  exact V_iald C0 ho hk (inb_in h1) hd k
theorem V_rz (C0 : Cx G own cc rt) {o : Nat} {i v : Int32} (ho : o < NN) (hk : kd o = 22) (h : ri I o i = some v) (hd : decode cc pc = .ok (.baload, 1)) (k : V G f (pc + 1) lv (.int v :: st) I L R) : V G f pc lv (.int i :: .ref (G.ad o) :: st) I L R := by
  obtain ⟨h1, h2⟩ := ite_some h
  cases h2
  exact V_zald C0 ho hk (inb_in h1) hd k
theorem V_rl (C0 : Cx G own cc rt) {o : Nat} {i : Int32} {v : Int64} (ho : o < NN) (hk : kd o = 21) (h : rl L o i = some v) (hd : decode cc pc = .ok (.laload, 1)) (k : V G f (pc + 1) lv (.long v :: st) I L R) : V G f pc lv (.int i :: .ref (G.ad o) :: st) I L R := by
  obtain ⟨h1, h2⟩ := ite_some h
  cases h2
  exact V_lald C0 ho hk (inb_in h1) hd k
theorem V_ra (C0 : Cx G own cc rt) {o c a : Nat} {i : Int32} (ho : o < NN) (hk : kd o = 23 ∨ kd o = 24) (h : ra R o i c = some a) (hd : decode cc pc = .ok (.aaload, 1)) (k : V G f (pc + 1) lv (.ref (G.ad a) :: st) I L R) : V G f pc lv (.int i :: .ref (G.ad o) :: st) I L R := by
  obtain ⟨h1, h2⟩ := ite_some h
  exact V_aald C0 ho hk (inb_in h1) (rf_at h2) hd k
theorem V_wi (C0 : Cx G own cc rt) {o : Nat} {i x : Int32} {I' : MI} (ho : o < NN) (hk : kd o = 20) (h : wi I o i x = some I') (hd : decode cc pc = .ok (.iastore, 1)) (k : V G f (pc + 1) lv st I' L R) : V G f pc lv (.int x :: .int i :: .ref (G.ad o) :: st) I L R := by
  obtain ⟨h1, h2⟩ := ite_some h
  cases h2
  exact V_iast C0 ho hk (inb_in h1) hd k
theorem V_wz (C0 : Cx G own cc rt) {o : Nat} {i x : Int32} {I' : MI} (ho : o < NN) (hk : kd o = 22) (h : wz I o i x = some I') (hd : decode cc pc = .ok (.bastore, 1)) (k : V G f (pc + 1) lv st I' L R) : V G f pc lv (.int x :: .int i :: .ref (G.ad o) :: st) I L R := by
  obtain ⟨h1, h2⟩ := ite_some h
  cases h2
  exact V_zast C0 ho hk h1.2 (inb_in h1.1) hd k
theorem V_wg (C0 : Cx G own cc rt) {o : Nat} {i : Int32} {x : Int64} {L' : ML} (ho : o < NN) (hk : kd o = 21) (h : wg L o i x = some L') (hd : decode cc pc = .ok (.lastore, 1)) (k : V G f (pc + 1) lv st I L' R) : V G f pc lv (.long x :: .int i :: .ref (G.ad o) :: st) I L R := by
  obtain ⟨h1, h2⟩ := ite_some h
  cases h2
  exact V_last C0 ho hk (inb_in h1) hd k
theorem V_tableC (C0 : Cx G own cc rt) {dflt lo hi : Int} {offs : Array Int} {len : Nat} {x v : Int32} {tgt : Nat} (hx : x = v) (h1 : ¬ v.toInt < lo ∧ ¬ hi < v.toInt) (h2 : offs[(v.toInt - lo).toNat]? = some ((tgt : Int) - (pc : Int))) (hd : decode cc pc = .ok (.tableswitch dflt lo hi offs, len)) (k : V G f tgt lv st I L R) : V G f pc lv (.int x :: st) I L R := by
  subst hx
  exact V_tableIn C0 h1.1 h1.2 h2 (by omega) hd k
def tbN (dflt lo hi : Int) (offs : Array Int) (vs : List Int32) : Bool := decide (hi - lo + 1 = offs.size) && (List.range offs.size).all (fun i => decide (offs[i]? = some dflt) || decide (Int32.ofInt (lo + i) ∈ vs))
theorem V_tableN (C0 : Cx G own cc rt) {dflt lo hi : Int} {offs : Array Int} {len : Nat} {x : Int32} {tgt : Nat} {vs : List Int32} (nd : ∀ q ∈ vs, ¬ x = q) (h1 : tbN dflt lo hi offs vs = true) (h2 : (pc : Int) + dflt = (tgt : Int)) (hd : decode cc pc = .ok (.tableswitch dflt lo hi offs, len)) (k : V G f tgt lv st I L R) : V G f pc lv (.int x :: st) I L R := by
  by_cases q : x.toInt < lo ∨ hi < x.toInt
  · exact V_tableOut C0 q h2 hd k
  · simp only [tbN, Bool.and_eq_true, decide_eq_true_eq, List.all_eq_true, List.mem_range, Bool.or_eq_true] at h1
    have q1 : ¬ x.toInt < lo := fun z => q (Or.inl z)
    have q2 : ¬ hi < x.toInt := fun z => q (Or.inr z)
    have hlt : (x.toInt - lo).toNat < offs.size := by omega
    rcases h1.2 _ hlt with z | z
    · exact V_tableIn C0 q1 q2 z h2 hd k
    · have e : lo + ((x.toInt - lo).toNat : Int) = x.toInt := by omega
      rw [e, Int32.ofInt_toInt] at z
      exact absurd rfl (nd x z)
def lkS (ps : Array (Int × Int)) : Bool := (ps.toList.zip (ps.toList.drop 1)).all (fun (a, next) => a.1 < next.1)
theorem V_lookC (C0 : Cx G own cc rt) {dflt : Int} {ps : Array (Int × Int)} {len : Nat} {x v : Int32} {tgt : Nat} (hx : x = v) (h1 : lkS ps = true) (h2 : Op.lookupswitch.offset ps.toList dflt v.toInt = (tgt : Int) - (pc : Int)) (hd : decode cc pc = .ok (.lookupswitch dflt ps, len)) (k : V G f tgt lv st I L R) : V G f pc lv (.int x :: st) I L R := by
  subst hx
  exact V_lookup C0 h1 h2 (by omega) hd k
def lkN (ps : List (Int × Int)) (vs : List Int32) : Bool := ps.all (fun q => decide (Int32.ofInt q.1 ∈ vs))
theorem lkN_out {x : Int32} {vs : List Int32} {dflt : Int} (nd : ∀ q ∈ vs, ¬ x = q) : ∀ (ps : List (Int × Int)), lkN ps vs = true → Op.lookupswitch.offset ps dflt x.toInt = dflt := by
  intro ps
  induction ps with
  | nil => intro _; rfl
  | cons q ps ih =>
    intro h
    obtain ⟨a, o⟩ := q
    simp only [lkN, List.all_cons, Bool.and_eq_true, decide_eq_true_eq] at h
    have hne : ¬ a = x.toInt := by
      intro e
      have h1 := h.1
      rw [e, Int32.ofInt_toInt] at h1
      exact nd x h1 rfl
    rw [Op.lookupswitch.offset_cons, if_neg hne]
    exact ih h.2
theorem V_lookN (C0 : Cx G own cc rt) {dflt : Int} {ps : Array (Int × Int)} {len : Nat} {x : Int32} {tgt : Nat} {vs : List Int32} (nd : ∀ q ∈ vs, ¬ x = q) (h1 : (lkS ps && lkN ps.toList vs) = true) (h2 : (pc : Int) + dflt = (tgt : Int)) (hd : decode cc pc = .ok (.lookupswitch dflt ps, len)) (k : V G f tgt lv st I L R) : V G f pc lv (.int x :: st) I L R := by
  rw [Bool.and_eq_true] at h1
  exact V_lookup C0 h1.1 (lkN_out nd _ h1.2) h2 hd k
end VB
