/-! T3: names -/
def allB (p : Nat → Bool) : Nat → Nat → Bool
  | 0, _ => true
  | d + 1, i => p i && allB p d (i + 1)
theorem allB_iff {p : Nat → Bool} : ∀ d i, allB p d i = true ↔ ∀ l, i ≤ l → l < i + d → p l = true := by
  intro d
  induction d with
  | zero => intro i; exact ⟨fun _ l h1 h2 => by omega, fun _ => rfl⟩
  | succ d ih =>
    intro i
    rw [allB, Bool.and_eq_true, ih]
    refine ⟨fun g l h1 h2 => ?_, fun g => ⟨g i (Nat.le_refl _) (by omega), fun l h1 h2 => g l (by omega) (by omega)⟩⟩
    rcases Nat.lt_or_ge i l with q | q
    · exact g.2 l q (by omega)
    · have : l = i := by omega
      rw [this]; exact g.1
def nmP (a : Nat) (m : MI) (W : List Nat) (u l : Nat) : Bool := decide (m a (8 * u + l) = nI (W.getD l 0))
def nmB (a : Nat) (m : MI) (W : List Nat) (u : Nat) : Bool := allB (nmP a m W u) 8 0
theorem nmB_iff {a : Nat} {m : MI} {W : List Nat} {u : Nat} : nmB a m W u = true ↔ ∀ l, l < 8 → m a (8 * u + l) = nI (W.getD l 0) := by
  unfold nmB
  rw [allB_iff]
  exact ⟨fun g l hl => of_decide_eq_true (g l (Nat.zero_le _) (by omega)), fun g l _ hl => decide_eq_true (g l (by omega))⟩
def lmO (p : Nat → Bool) : Nat → Option Nat
  | 0 => none
  | k + 1 => if p k = true then some k else lmO p k
theorem lmO_none {p : Nat → Bool} : ∀ k, lmO p k = none ↔ ∀ u, u < k → p u = false := by
  intro k
  induction k with
  | zero => exact ⟨fun _ u hu => by omega, fun _ => rfl⟩
  | succ k ih =>
    unfold lmO
    cases q : p k with
    | true => exact ⟨fun z => by simp at z, fun z => by rw [z k (by omega)] at q; cases q⟩
    | false =>
      rw [if_neg (by decide), ih]
      exact ⟨fun z u hu => by rcases Nat.lt_or_ge u k with g | g; exact z u g; have : u = k := by omega
                              rw [this]; exact q, fun z u hu => z u (by omega)⟩
theorem lmO_some {p : Nat → Bool} : ∀ k j, lmO p k = some j → j < k ∧ p j = true := by
  intro k
  induction k with
  | zero => intro j h; cases h
  | succ k ih =>
    intro j h
    unfold lmO at h
    cases q : p k with
    | true => rw [q, if_pos rfl] at h; cases h; exact ⟨by omega, q⟩
    | false => rw [q, if_neg (by decide)] at h; have := ih j h; exact ⟨by omega, this.2⟩
theorem wi_nm {I : MI} {a k n : Nat} {x : Int32} (h : ln a = n) (hk : k < n) (hn : n < 2 ^ 31) : wi I a (nI k) x = some (uI I a k x) := wi_nI h hk hn
theorem rl_nI {L : ML} {a k n : Nat} (h : ln a = n) (hk : k < n) (hn : n < 2 ^ 31) : rl L a (nI k) = some (L a k) := by
  unfold rl
  rw [h, if_pos (inb_nI hk hn), ix_nI (by omega)]
theorem wg_nI {L : ML} {a k n : Nat} {x : Int64} (h : ln a = n) (hk : k < n) (hn : n < 2 ^ 31) : wg L a (nI k) x = some (uL L a k x) := by
  unfold wg
  rw [h, if_pos (inb_nI hk hn), ix_nI (by omega)]
theorem nI_m8 (j : Nat) : (8 : Int32) * nI j = nI (8 * j) := (Int32.ofNat_mul 8 j).symm
theorem nI_m3 (j : Nat) : (3 : Int32) * nI j = nI (3 * j) := (Int32.ofNat_mul 3 j).symm
theorem getD_none {W : List Nat} {l : Nat} (h : W.length ≤ l) : W.getD l 0 = 0 := by
  rw [List.getD_eq_getElem?_getD, List.getElem?_eq_none h]; rfl
section P27
variable {N n s : Nat} {pb : Nat} {L Lr : ML} {c m : MI} {W : List Nat}
/-- the letter l of the word read, as the reference gets it -/
theorem rdW {l : Nat} (h : WW n s L m W) (hn : n ≤ 4000) (hl : l < 8) : (if m 24 13 ≤ nI l then some (0 : Int32) else (rf (GRf pb) 24 8 20).bind fun a12 => (ri m a12 (m 24 12 + nI l)).bind fun v13 => some v13) = some (nI (W.getD l 0)) := by
  obtain ⟨h1, h2, h3, h12, h13, h6, h7, h8⟩ := h
  rw [h13]
  rcases Nat.lt_or_ge l W.length with q | q
  · rw [if_neg (nI_ge q (by omega)), rf_24_8, bse, h12, nI_add, ri_nI ln_31 (show s + l < 4000 by omega) (by decide), bse, h7 l q]
  · rw [if_pos (nI_le q (by omega)), getD_none q]; rfl
theorem n17 {a j : Nat} {y2 y3 : Int32} (h : WW n s L m W) (hn : n ≤ 4000) (ha : ln a = 160) (hj : j < 20) : ∀ (d i k : Nat) (b : Bool), i + d = 8 → d < k →
    LF_X12_named_17 N k 24 a y2 y3 (nI j) (b2i b) (nI i) m Lr (GRf pb) = some (b2i (b && allB (nmP a m W j) d i)) := by
  intro d
  induction d with
  | zero =>
    intro i k b hi hk
    obtain ⟨k, rfl⟩ : ∃ z, k = z + 1 := ⟨k - 1, by omega⟩
    have z : (8 : Int32) ≤ nI i := nI_le (a := 8) (b := i) (by omega) (by omega)
    simp only [LF_X12_named_17, if_pos z, allB, Bool.and_true]
  | succ d ih =>
    intro i k b hi hk
    obtain ⟨k, rfl⟩ : ∃ z, k = z + 1 := ⟨k - 1, by omega⟩
    have z : ¬ (8 : Int32) ≤ nI i := nI_ge (a := i) (b := 8) (by omega) (by decide)
    have a1 : nI i + 1 = nI (i + 1) := nI_1 i
    have r1 : ri m a (nI (8 * j + i)) = some (m a (8 * j + i)) := ri_nI ha (by omega) (by decide)
    have rw1 := rdW (pb := pb) h hn (show i < 8 by omega)
    cases b with
    | false =>
      rw [LF_X12_named_17]
      have i1 := ih (i + 1) k false (by omega) (by omega)
      rw [Bool.false_and] at i1 ⊢
      have i1 : LF_X12_named_17 N k 24 a y2 y3 (nI j) 0 (nI (i + 1)) m Lr (GRf pb) = _ := i1
      simp only [if_neg z, b2f, if_true, b1e, wre, a1, i1]
    | true =>
      rw [LF_X12_named_17, allB]
      by_cases q : m a (8 * j + i) = nI (W.getD i 0)
      · have i1 := ih (i + 1) k true (by omega) (by omega)
        have i1 : LF_X12_named_17 N k 24 a y2 y3 (nI j) 1 (nI (i + 1)) m Lr (GRf pb) = _ := i1
        have e : nmP a m W j i = true := decide_eq_true q
        rw [e, Bool.true_and]
        simp only [if_neg z, b2t, if_false, nI_m8, nI_add, r1, bse, rw1, b1e, if_pos q, wre, a1, i1]
      · have i1 := ih (i + 1) k false (by omega) (by omega)
        have i1 : LF_X12_named_17 N k 24 a y2 y3 (nI j) 0 (nI (i + 1)) m Lr (GRf pb) = _ := i1
        have e : nmP a m W j i = false := decide_eq_false q
        rw [e, Bool.false_and]
        simp only [if_neg z, b2t, if_false, nI_m8, nI_add, r1, bse, rw1, b1e, if_neg q, wre, a1, i1]
        rfl
theorem n5 {a u : Nat} (h : WW n s L m W) (hN : 5000 ≤ N) (hn : n ≤ 4000) (ha : ln a = 160) (hu : u ≤ 20) : ∀ (d j k : Nat), j + d = u → d < k →
    LF_X12_named_5 N k 24 a (nI u) (oI (lmO (nmB a m W) j)) (nI j) m Lr (GRf pb) = some (oI (lmO (nmB a m W) u)) := by
  intro d
  induction d with
  | zero =>
    intro j k hj hk
    obtain ⟨k, rfl⟩ : ∃ z, k = z + 1 := ⟨k - 1, by omega⟩
    have e : j = u := by omega
    subst e
    have z : nI j ≤ nI j := Int32.le_refl _
    simp only [LF_X12_named_5, if_pos z]
  | succ d ih =>
    intro j k hj hk
    obtain ⟨k, rfl⟩ : ∃ z, k = z + 1 := ⟨k - 1, by omega⟩
    have z : ¬ nI u ≤ nI j := nI_ge (by omega) (by omega)
    have a1 : nI j + 1 = nI (j + 1) := nI_1 j
    have e1 := n17 (N := N) (pb := pb) (Lr := Lr) (y2 := nI u) (y3 := oI (lmO (nmB a m W) j)) h hn ha (show j < 20 by omega) 8 0 N true rfl (by omega)
    rw [Bool.true_and] at e1
    have e1 : LF_X12_named_17 N N 24 a (nI u) (oI (lmO (nmB a m W) j)) (nI j) 1 0 m Lr (GRf pb) = _ := e1
    have e1 : _ = some (b2i (nmB a m W j)) := e1
    have i1 := ih (j + 1) k (by omega) (by omega)
    rw [lmO] at i1
    rw [LF_X12_named_5]
    cases q : nmB a m W j with
    | true =>
      rw [q] at e1 i1
      rw [if_pos rfl] at i1
      have i1 : LF_X12_named_5 N k 24 a (nI u) (nI j) (nI (j + 1)) m Lr (GRf pb) = _ := i1
      simp only [if_neg z, e1, b1e, b2t, if_false, wre, a1, i1]
    | false =>
      rw [q] at e1 i1
      rw [if_neg (by decide)] at i1
      simp only [if_neg z, e1, b1e, b2f, if_true, wre, a1, i1]
theorem named_ok {a u : Nat} (h : WW n s L m W) (hN : 5000 ≤ N) (hn : n ≤ 4000) (hk : kd a = 20 ∧ a < NN) (ha : ln a = 160) (hu : u ≤ 20) : F_X12_named N 24 a (nI u) m Lr (GRf pb) = some (oI (lmO (nmB a m W) u)) := by
  have e := n5 (N := N) (pb := pb) (Lr := Lr) h hN hn ha hu u 0 N (by omega) (by omega)
  have e : LF_X12_named_5 N N 24 a (nI u) (-1) 0 m Lr (GRf pb) = _ := e
  simp only [F_X12_named, ck_24, if_true, eq_true hk, e, b1e]
theorem letW {l : Nat} (h : WW n s L m W) (hl : l < 8) : letL (L 4 7) l = nI (W.getD l 0) := by
  have := lett_ok (I := fun _ _ => 0) (R := GRf 0) h (show l ≤ 8 by omega)
  have e : inV (nI l) 0 7 = true := by
    unfold inV
    rw [if_neg (nI_pos (by omega)), if_neg (show ¬ (7 : Int32) < nI l from nI_nlt (b := l) (a := 7) (by omega) (by decide))]
  simp only [F_X11_letterOf, inC_val, e, b1e, b2t, if_false] at this
  exact Option.some.inj this
/-- a long that has the letters of row u is the word iff the row is the word -/
theorem nm_iff {a u : Nat} {x : Int64} (h : WW n s L m W) (hx : ∀ l, l < 8 → letL x l = m a (8 * u + l)) : (x = L 4 7) ↔ nmB a m W u = true := by
  rw [nmB_iff]
  constructor
  · intro e l hl
    rw [← hx l hl, e, letW h hl]
  · intro g
    exact let_ext (fun l hl => by rw [hx l hl, g l hl, letW h hl])
theorem taken_loop {k : Nat} {Lk : ML} (h : WW n s L m W) (hk : k ≤ 20) (h3 : c 6 3 = nI k) (hL : ∀ u, u < k → ∀ l, l < 8 → letL (Lk 8 u) l = m 33 (8 * u + l)) : ∀ (d j z : Nat), j + d = k → d < z →
    ∃ b : Bool, LF_X0_isTaken_2 N z 6 (L 4 7) (nI j) c Lk (GRf pb) = some (if b then .inl true else .inr ()) ∧ (b = false ↔ ∀ u, j ≤ u → u < k → nmB 33 m W u = false) := by
  intro d
  induction d with
  | zero =>
    intro j z hj hz
    obtain ⟨z, rfl⟩ : ∃ y, z = y + 1 := ⟨z - 1, by omega⟩
    have q : nI k ≤ nI j := nI_le (by omega) (by omega)
    refine ⟨false, ?_, fun _ u h1 h2 => by omega, fun _ => rfl⟩
    simp only [LF_X0_isTaken_2, h3, if_pos q, Bool.false_eq_true, if_false]
  | succ d ih =>
    intro j z hj hz
    obtain ⟨z, rfl⟩ : ∃ y, z = y + 1 := ⟨z - 1, by omega⟩
    have q : ¬ nI k ≤ nI j := nI_ge (by omega) (by omega)
    have q2 : ¬ Int32.ofNat 20 ≤ nI j := nI_ge (b := 20) (by omega) (by decide)
    have a1 : nI j + 1 = nI (j + 1) := nI_1 j
    have r1 : rl Lk 8 (nI j) = some (Lk 8 j) := rl_nI ln_8 (show j < 20 by omega) (by decide)
    have hi := nm_iff h (hL j (by omega))
    by_cases e : Lk 8 j = L 4 7
    · refine ⟨true, ?_, fun z => Bool.noConfusion z, fun g => ?_⟩
      · simp only [LF_X0_isTaken_2, h3, if_neg q, rf_6_1, bse, ln_8, if_neg q2, r1, if_pos ((lg_cmp_eq _ _).mpr e), if_true]
      · have := g j (Nat.le_refl _) (by omega)
        rw [hi.mp e] at this
        cases this
    · obtain ⟨b, e1, e2⟩ := ih (j + 1) z (by omega) (by omega)
      refine ⟨b, ?_, e2.trans ⟨fun g u h1 h2 => ?_, fun g u h1 h2 => g u (by omega) h2⟩⟩
      · rw [← e1]
        simp only [LF_X0_isTaken_2, h3, if_neg q, rf_6_1, bse, ln_8, if_neg q2, r1, if_neg (fun g => e ((lg_cmp_eq _ _).mp g)), wre, a1]
      · rcases Nat.lt_or_ge j u with p | p
        · exact g u p h2
        · have : u = j := by omega
          subst this
          cases y : nmB 33 m W u with
          | false => rfl
          | true => exact absurd (hi.mpr y) e
theorem taken_ok {k : Nat} {Lk : ML} (h : WW n s L m W) (hN : 5000 ≤ N) (hk : k ≤ 20) (h3 : c 6 3 = nI k) (hL : ∀ u, u < k → ∀ l, l < 8 → letL (Lk 8 u) l = m 33 (8 * u + l)) :
    F_X0_isTaken N 6 (L 4 7) c Lk (GRf pb) = some (lmO (nmB 33 m W) k).isSome := by
  obtain ⟨b, e1, e2⟩ := taken_loop (N := N) (pb := pb) (c := c) h hk h3 hL k 0 N (by omega) (by omega)
  have e1 : LF_X0_isTaken_2 N N 6 (L 4 7) 0 c Lk (GRf pb) = _ := e1
  have e3 : b = (lmO (nmB 33 m W) k).isSome := by
    cases q : lmO (nmB 33 m W) k with
    | none =>
      have := (lmO_none k).mp q
      exact e2.mpr (fun u _ hu => this u hu)
    | some j =>
      obtain ⟨p1, p2⟩ := lmO_some k j q
      cases b with
      | true => rfl
      | false =>
        have := e2.mp rfl j (Nat.zero_le _) p1
        rw [p2] at this
        cases this
  rw [← e3]
  cases b with
  | true => simp only [F_X0_isTaken, ck_6, if_true, e1, bsl]
  | false => simp only [F_X0_isTaken, ck_6, if_true, e1, Bool.false_eq_true, if_false, bsr]
/-- the row of a new name -/
theorem nm_loop {k : Nat} (hN : 5000 ≤ N) (hn : n ≤ 4000) (hk : k < 20) : ∀ (d j z : Nat) (m : MI), j + d = 8 → d < z → WW n s L m W → m 24 15 = 0 →
    ∃ m', LF_X12_readUnit_144 N z 24 (nI k) (nI j) m Lr (GRf pb) = some m' ∧ (∀ o p, ¬ (o = 33 ∧ 8 * k ≤ p ∧ p < 8 * k + 8) → m' o p = m o p) ∧ (∀ l, l < j → m' 33 (8 * k + l) = m 33 (8 * k + l)) ∧ ∀ l, j ≤ l → l < 8 → m' 33 (8 * k + l) = nI (W.getD l 0) := by
  intro d
  induction d with
  | zero =>
    intro j z m hj hz h h15
    obtain ⟨z, rfl⟩ : ∃ y, z = y + 1 := ⟨z - 1, by omega⟩
    have q : (8 : Int32) ≤ nI j := nI_le (a := 8) (b := j) (by omega) (by omega)
    refine ⟨m, ?_, fun _ _ _ => rfl, fun _ _ => rfl, fun l h1 h2 => by omega⟩
    simp only [LF_X12_readUnit_144, if_pos q]
  | succ d ih =>
    intro j z m hj hz h h15
    obtain ⟨z, rfl⟩ : ∃ y, z = y + 1 := ⟨z - 1, by omega⟩
    have q : ¬ (8 : Int32) ≤ nI j := nI_ge (a := j) (b := 8) (by omega) (by decide)
    have a1 : nI j + 1 = nI (j + 1) := nI_1 j
    have w1 : ∀ v, wi m 33 (nI (8 * k + j)) v = some (uI m 33 (8 * k + j) v) := fun v => wi_nI ln_33 (show 8 * k + j < 160 by omega) (by decide)
    have rw1 := rdW (pb := pb) h hn (show j < 8 by omega)
    have h' : WW n s L (uI m 33 (8 * k + j) (nI (W.getD j 0))) W := by
      obtain ⟨h1, h2, h3, h12, h13, h6, h7, h8⟩ := h
      refine ⟨h1, h2, h3, by rw [uI_at (by omega)]; exact h12, by rw [uI_at (by omega)]; exact h13, h6, fun l hl => by rw [uI_at (by omega)]; exact h7 l hl, h8⟩
    obtain ⟨m', e1, e2, e3, e4⟩ := ih (j + 1) z (uI m 33 (8 * k + j) (nI (W.getD j 0))) (by omega) (by omega) h' (by rw [uI_at (by omega)]; exact h15)
    refine ⟨m', ?_, fun o p g => ?_, fun l hl => ?_, fun l h1 h2 => ?_⟩
    · rw [← e1]
      simp only [LF_X12_readUnit_144, if_neg q, h15, if_true, rf_24_19, bse, rw1, b1e, nI_m8, nI_add, w1, wre, a1]
    · rw [e2 o p g, uI_at (by omega)]
    · rw [e3 l (by omega), uI_at (by omega)]
    · rcases Nat.lt_or_ge j l with p | p
      · exact e4 l p h2
      · have : l = j := by omega
        subst this
        rw [e3 l (by omega), uI_same]
theorem nm_stop {k : Nat} (hN : 5000 ≤ N) (h15 : m 24 15 ≠ 0) : LF_X12_readUnit_144 N N 24 (nI k) 0 m Lr (GRf pb) = some m := by
  obtain ⟨z, rfl⟩ : ∃ y, N = y + 1 := ⟨N - 1, by omega⟩
  have q : ¬ (8 : Int32) ≤ 0 := by decide
  simp only [LF_X12_readUnit_144, if_neg q, if_neg h15]
end P27
