/-! T3: words -/
def Wl (m : MI) (s w : Nat) : List Nat := (List.range w).map (bw m s)
/-- the word that both have read, as a list -/
def WW (n s : Nat) (L : ML) (m : MI) (W : List Nat) : Prop := 1 ≤ W.length ∧ W.length ≤ 8 ∧ s + W.length ≤ n ∧ m 24 12 = nI s ∧ m 24 13 = nI W.length ∧ L 4 7 = lN (wV (fun k => W.getD k 0) W.length) ∧ (∀ j, j < W.length → m 31 (s + j) = nI (W.getD j 0)) ∧ ∀ j, j < W.length → 48 ≤ W.getD j 0 ∧ W.getD j 0 ≤ 122
theorem wV_congr {f g : Nat → Nat} : ∀ k, (∀ j, j < k → f j = g j) → wV f k = wV g k := by
  intro k
  induction k with
  | zero => intro _; rfl
  | succ k ih => intro h; rw [wV, wV, ih (fun j hj => h j (by omega)), h k (by omega)]
theorem WD.w {n s : Nat} {L : ML} {c m : MI} (hT : Tx n c m) (h : WD n s L m) (h12 : m 24 12 = nI s) : ∃ W, WW n s L m W := by
  obtain ⟨w, h1, h2, h3, h4, h5, h6⟩ := h
  have hl : (Wl m s w).length = w := by unfold Wl; rw [List.length_map, List.length_range]
  have hg : ∀ j, j < w → (Wl m s w).getD j 0 = bw m s j := fun j hj => by
    unfold Wl
    rw [List.getD_eq_getElem?_getD, List.getElem?_map, List.getElem?_range hj]
    rfl
  refine ⟨Wl m s w, ?_⟩
  unfold WW
  rw [hl]
  refine ⟨h1, h2, h3, h12, h4, ?_, fun j hj => ?_, fun j hj => ?_⟩
  · rw [h5]; exact congrArg lN (wV_congr w (fun j hj => (hg j hj).symm))
  · have := (bt_in hT (show s + j < n by omega)).1
    unfold bt at this
    rw [if_pos (show s + j < n by omega)] at this
    rw [hg j hj]; exact this
  · rw [hg j hj]; exact h6 j hj
section P24
variable {N n s : Nat} {pb : Nat} {L Lr : ML} {c m : MI} {W : List Nat}
theorem lett_ok {k : Nat} {I : MI} {R : MR} (h : WW n s L m W) (hk : k ≤ 8) : F_X11_letterOf (L 4 7) (nI k) I L R = some (nI (W.getD k 0)) := by
  obtain ⟨h1, h2, h3, h4, h5, h6, h7, h8⟩ := h
  have hsm := wV_small (f := fun k => W.getD k 0) h2 (fun j hj => by have := h8 j hj; omega)
  rw [h6]
  rcases Nat.lt_or_ge k 8 with q | q
  · have e : inV (nI k) 0 7 = true := by
      unfold inV
      rw [if_neg (nI_pos (by omega)), if_neg (show ¬ (7 : Int32) < nI k from nI_nlt (b := k) (a := 7) (by omega) (by decide))]
    have z : letL (lN (wV (fun k => W.getD k 0) W.length)) k = nI (W.getD k 0) := by
      rw [letL_lN hsm q, wV_dg _ (fun j hj => by have := h8 j hj; omega)]
      rcases Nat.lt_or_ge k W.length with p | p
      · rw [if_pos p]
      · rw [if_neg (by omega), List.getD_eq_getElem?_getD, List.getElem?_eq_none p]; rfl
    unfold letL at z
    simp only [F_X11_letterOf, inC_val, e, b1e, b2t, if_false, z]
  · have k8 : k = 8 := by omega
    subst k8
    have e : inV (nI 8) 0 7 = false := by decide
    have z : W.getD 8 0 = 0 := by rw [List.getD_eq_getElem?_getD, List.getElem?_eq_none (by omega)]; rfl
    simp only [F_X11_letterOf, inC_val, e, b1e, b2f, if_true, z]
    rfl
theorem sTx_ok : ∀ i, i < 39 → (sTx.getD i []).length ≤ 8 ∧ 1 ≤ (sTx.getD i []).length ∧ ∀ b ∈ sTx.getD i [], 48 ≤ b ∧ b ≤ 122 := by decide
theorem getD_mem {l : List Nat} {j : Nat} (h : j < l.length) : l.getD j 0 ∈ l := by
  rw [List.getD_eq_getElem?_getD, List.getElem?_eq_getElem h]
  exact List.getElem_mem h
theorem sA_ok {i j : Nat} (hi : i < 39) (hj : j < (sTx.getD i []).length) : sA (400 + i) (nI j) = some (nI ((sTx.getD i []).getD j 0)) := by
  have h8 := (sTx_ok i hi).1
  have e : sN (400 + i) = (sTx.getD i []).length := by unfold sN; rw [Nat.add_sub_cancel_left]
  have e2 : sC (400 + i) j = nI ((sTx.getD i []).getD j 0) := by unfold sC; rw [Nat.add_sub_cancel_left]; rfl
  unfold sA
  rw [ix_nI (by omega), e2, if_pos]
  rw [e]
  exact inb_nI hj (by omega)
theorem list_eq {a b : List Nat} (hl : a.length = b.length) (h : ∀ j, j < a.length → a.getD j 0 = b.getD j 0) : a = b := by
  refine List.ext_getElem hl (fun i h1 h2 => ?_)
  have := h i h1
  rw [List.getD_eq_getElem?_getD, List.getD_eq_getElem?_getD, List.getElem?_eq_getElem h1, List.getElem?_eq_getElem h2] at this
  exact this
theorem isw_loop {i : Nat} (h : WW n s L m W) (hi : i < 39) : ∀ (d j k : Nat), j + d = (sTx.getD i []).length → d < k →
    ∃ b : Bool, LF_X8_isWord_26 N k 4 (400 + i) (nI j) c L (GRf pb) = some (if b then .inr () else .inl false) ∧ (b = true ↔ ∀ l, j ≤ l → l < (sTx.getD i []).length → W.getD l 0 = (sTx.getD i []).getD l 0) := by
  have h8 := (sTx_ok i hi).1
  have e : sN (400 + i) = (sTx.getD i []).length := by unfold sN; rw [Nat.add_sub_cancel_left]
  intro d
  induction d with
  | zero =>
    intro j k hj hk
    obtain ⟨k, rfl⟩ : ∃ z, k = z + 1 := ⟨k - 1, by omega⟩
    refine ⟨true, ?_, fun _ l h1 h2 => by omega, fun _ => rfl⟩
    have z : nI (sN (400 + i)) ≤ nI j := by rw [e]; exact nI_le (by omega) (by omega)
    simp only [LF_X8_isWord_26, if_pos z, if_true]
  | succ d ih =>
    intro j k hj hk
    obtain ⟨k, rfl⟩ : ∃ z, k = z + 1 := ⟨k - 1, by omega⟩
    have z : ¬ nI (sN (400 + i)) ≤ nI j := by rw [e]; exact nI_ge (by omega) (by omega)
    have hW : W.getD j 0 < 256 := by
      rcases Nat.lt_or_ge j W.length with p | p
      · have := h.2.2.2.2.2.2.2 j p; omega
      · rw [List.getD_eq_getElem?_getD, List.getElem?_eq_none p]; decide
    have hS := (sTx_ok i hi).2.2 _ (getD_mem (l := sTx.getD i []) (j := j) (by omega))
    have a1 : nI j + 1 = nI (j + 1) := nI_1 j
    by_cases q : W.getD j 0 = (sTx.getD i []).getD j 0
    · obtain ⟨b, e1, e2⟩ := ih (j + 1) k (by omega) (by omega)
      refine ⟨b, ?_, e2.trans ⟨fun g l h1 h2 => ?_, fun g l h1 h2 => g l (by omega) h2⟩⟩
      · rw [← e1]
        simp only [LF_X8_isWord_26, if_neg z, lett_ok h (show j ≤ 8 by omega), b1e, sA_ok hi (show j < (sTx.getD i []).length by omega), bse, q, if_true, wre, a1]
      · rcases Nat.lt_or_ge j l with p | p
        · exact g l p h2
        · have : l = j := by omega
          subst this; exact q
    · refine ⟨false, ?_, fun z => Bool.noConfusion z, fun g => absurd (g j (Nat.le_refl _) (by omega)) q⟩
      have q' : ¬ nI (W.getD j 0) = nI ((sTx.getD i []).getD j 0) := fun z => q ((nI_eq (by omega) (by omega)).mp z)
      simp only [LF_X8_isWord_26, if_neg z, lett_ok h (show j ≤ 8 by omega), b1e, sA_ok hi (show j < (sTx.getD i []).length by omega), bse, if_neg q', Bool.false_eq_true, if_false]
theorem isWord_ok {i : Nat} (hN : 5000 ≤ N) (h : WW n s L m W) (h4 : c 4 4 = 1) (hi : i < 39) : F_X8_isWord N 4 (400 + i) c L (GRf pb) = some (decide (sTx.getD i [] = W)) := by
  have hi' : (400 ≤ 400 + i ∧ 400 + i < 439) = True := eq_true (by omega)
  have h8 := (sTx_ok i hi).1
  have e : sN (400 + i) = (sTx.getD i []).length := by unfold sN; rw [Nat.add_sub_cancel_left]
  have hWl := h.2.1
  have lt := lett_ok (R := GRf pb) (I := c) h h8
  by_cases q : W.getD (sTx.getD i []).length 0 = 0
  · obtain ⟨b, e1, e2⟩ := isw_loop (N := N) (c := c) (pb := pb) h hi (sTx.getD i []).length 0 N (by omega) (by omega)
    have e1 : LF_X8_isWord_26 N N 4 (400 + i) 0 c L (GRf pb) = _ := e1
    have hb : b = decide (sTx.getD i [] = W) := by
      rw [Bool.eq_iff_iff, decide_eq_true_iff, e2]
      constructor
      · intro g
        have l1 : ¬ (sTx.getD i []).length < W.length := fun z => by have := h.2.2.2.2.2.2.2 _ z; omega
        have l2 : ¬ W.length < (sTx.getD i []).length := fun z => by
          have k1 := g W.length (by omega) z
          have k2 := (sTx_ok i hi).2.2 _ (getD_mem z)
          rw [List.getD_eq_getElem?_getD, List.getElem?_eq_none (Nat.le_refl _)] at k1
          have k1 : 0 = (sTx.getD i []).getD W.length 0 := k1
          omega
        exact list_eq (by omega) (fun j hj => (g j (by omega) hj).symm)
      · intro g l _ _; rw [g]
    have z : (nI (0 : Nat) = 0) = True := eq_true rfl
    rw [← hb]
    cases b with
    | true => simp only [F_X8_isWord, ck_4, hi', if_true, h4, e, lt, b1e, q, z, e1, bsr]
    | false => simp only [F_X8_isWord, ck_4, hi', if_true, h4, e, lt, b1e, q, z, e1, Bool.false_eq_true, if_false, bsl]
  · have hW : W.getD (sTx.getD i []).length 0 < 256 := by
      rcases Nat.lt_or_ge (sTx.getD i []).length W.length with p | p
      · have := h.2.2.2.2.2.2.2 _ p; omega
      · rw [List.getD_eq_getElem?_getD, List.getElem?_eq_none p]; decide
    have z : (nI (W.getD (sTx.getD i []).length 0) = 0) = False := eq_false (nI_ne0 (by omega) (by omega))
    have hne : ¬ sTx.getD i [] = W := fun g => q (by rw [← g, List.getD_eq_getElem?_getD, List.getElem?_eq_none (Nat.le_refl _)]; rfl)
    simp only [F_X8_isWord, ck_4, hi', if_true, h4, e, lt, b1e, z, if_false, decide_eq_false hne]
theorem isWord_no {i : Nat} (h4 : c 4 4 ≠ 1) (hi : i < 39) : F_X8_isWord N 4 (400 + i) c L (GRf pb) = some false := by
  have hi' : (400 ≤ 400 + i ∧ 400 + i < 439) = True := eq_true (by omega)
  simp only [F_X8_isWord, ck_4, hi', if_true, if_neg h4]
/-- a table of words: word j lies at off j -/
def TB (m : MI) (a sz b cnt : Nat) (off : Nat → Nat) : Prop := kd a = 20 ∧ a < NN ∧ ln a = sz ∧ sz < 2 ^ 20 ∧ off 0 = 0 ∧ ∀ j, j < cnt → b + j < 39 ∧ off (j + 1) = off j + ((sTx.getD (b + j) []).length + 1) ∧ off j + (sTx.getD (b + j) []).length < sz ∧ (∀ i, i < (sTx.getD (b + j) []).length → m a (off j + i) = nI ((sTx.getD (b + j) []).getD i 0)) ∧ m a (off j + (sTx.getD (b + j) []).length) = 0
def fw (b : Nat) (W : List Nat) (lo : Nat) : Nat → Nat → Option Nat
  | 0, _ => none
  | d + 1, j => if sTx.getD (b + j) [] = W ∧ lo ≤ j then some j else fw b W lo d (j + 1)
theorem wo_len {a sz b cnt j : Nat} {off : Nat → Nat} {y2 y3 y5 : Int32} (hT : TB m a sz b cnt off) (hj : j < cnt) : ∀ (d i k : Nat), i + d = (sTx.getD (b + j) []).length → d < k →
    LF_X12_wordOf_15 N k 24 a y2 y3 (nI (off j)) y5 (nI i) m Lr (GRf pb) = some (nI (sTx.getD (b + j) []).length) := by
  obtain ⟨t1, t2, t3, t4, t5, t6⟩ := hT
  obtain ⟨g1, g2, g3, g4, g5⟩ := t6 j hj
  intro d
  induction d with
  | zero =>
    intro i k hi hk
    obtain ⟨k, rfl⟩ : ∃ z, k = z + 1 := ⟨k - 1, by omega⟩
    have e : i = (sTx.getD (b + j) []).length := by omega
    subst e
    simp only [LF_X12_wordOf_15, nI_add, ri_nI t3 g3 (show sz < 2 ^ 31 by omega), bse, g5, if_true]
  | succ d ih =>
    intro i k hi hk
    obtain ⟨k, rfl⟩ : ∃ z, k = z + 1 := ⟨k - 1, by omega⟩
    have hS := (sTx_ok (b + j) g1).2.2 _ (getD_mem (l := sTx.getD (b + j) []) (j := i) (by omega))
    have z : (nI ((sTx.getD (b + j) []).getD i 0) = 0) = False := eq_false (nI_ne0 (by omega) (by omega))
    have r1 : ri m a (nI (off j + i)) = some (nI ((sTx.getD (b + j) []).getD i 0)) := by
      rw [ri_nI t3 (show off j + i < sz by omega) (show sz < 2 ^ 31 by omega), g4 i (by omega)]
    have a1 : nI i + 1 = nI (i + 1) := nI_1 i
    rw [← ih (i + 1) k (by omega) (by omega)]
    rw [LF_X12_wordOf_15]
    simp only [nI_add, r1, bse, z, if_false, wre, a1]
theorem wo_cmp {a sz b cnt j : Nat} {off : Nat → Nat} {y2 y3 y5 : Int32} (hT : TB m a sz b cnt off) (hj : j < cnt) (h : WW n s L m W) (hn : n ≤ 4000) (hl : (sTx.getD (b + j) []).length = W.length) : ∀ (d i k : Nat), i + d = W.length → d + 1 < k → (∀ l, l < i → W.getD l 0 = (sTx.getD (b + j) []).getD l 0) →
    LF_X12_wordOf_50 N k 24 a y2 y3 (nI (off j)) y5 (nI W.length) 1 (nI i) m Lr (GRf pb) = some (if sTx.getD (b + j) [] = W then 1 else 0) := by
  obtain ⟨t1, t2, t3, t4, t5, t6⟩ := hT
  obtain ⟨g1, g2, g3, g4, g5⟩ := t6 j hj
  obtain ⟨h1, h2, h3, h12, h13, h6, h7, h8⟩ := h
  intro d
  induction d with
  | zero =>
    intro i k hi hk hp
    obtain ⟨k, rfl⟩ : ∃ z, k = z + 1 := ⟨k - 1, by omega⟩
    have e : i = W.length := by omega
    subst e
    have z : nI W.length ≤ nI W.length := Int32.le_refl _
    rw [if_pos (list_eq hl (fun l hl' => (hp l (by omega)).symm))]
    simp only [LF_X12_wordOf_50, if_pos z]
  | succ d ih =>
    intro i k hi hk hp
    obtain ⟨k, rfl⟩ : ∃ z, k = z + 1 := ⟨k - 1, by omega⟩
    have z : ¬ nI W.length ≤ nI i := nI_ge (by omega) (by omega)
    have one : ((1 : Int32) = 0) = False := eq_false (by decide)
    have r1 : ri m a (nI (off j + i)) = some (nI ((sTx.getD (b + j) []).getD i 0)) := by
      rw [ri_nI t3 (show off j + i < sz by omega) (show sz < 2 ^ 31 by omega), g4 i (by omega)]
    have r2 : ri m 31 (nI (s + i)) = some (nI (W.getD i 0)) := by
      rw [ri_nI ln_31 (show s + i < 4000 by omega) (by decide), h7 i (by omega)]
    have a1 : nI i + 1 = nI (i + 1) := nI_1 i
    have hS := (sTx_ok (b + j) g1).2.2 _ (getD_mem (l := sTx.getD (b + j) []) (j := i) (by omega))
    have hW := h8 i (by omega)
    by_cases q : W.getD i 0 = (sTx.getD (b + j) []).getD i 0
    · rw [← ih (i + 1) k (by omega) (by omega) (fun l hl' => by
        rcases Nat.lt_or_ge l i with p | p
        · exact hp l p
        · have : l = i := by omega
          subst this; exact q)]
      rw [LF_X12_wordOf_50]
      simp only [if_neg z, one, if_false, rf_24_8, bse, h12, nI_add, r2, r1, q, if_true, b1e, wre, a1]
    · have q' : ¬ nI (W.getD i 0) = nI ((sTx.getD (b + j) []).getD i 0) := fun z => q ((nI_eq (by omega) (by omega)).mp z)
      have hne : ¬ sTx.getD (b + j) [] = W := fun g => q (by rw [g])
      rw [if_neg hne]
      obtain ⟨k, rfl⟩ : ∃ z, k = z + 1 := ⟨k - 1, by omega⟩
      rw [LF_X12_wordOf_50]
      simp only [if_neg z, one, if_false, rf_24_8, bse, h12, nI_add, r2, r1, if_neg q', b1e, wre, a1]
      rw [LF_X12_wordOf_50]
      simp only [if_true, ite_self]
def oI : Option Nat → Int32
  | some j => nI j
  | none => -1
theorem wo_loop {a sz b cnt lo hi : Nat} {off : Nat → Nat} (hT : TB m a sz b cnt off) (h : WW n s L m W) (hn : n ≤ 4000) (hN : 5000 ≤ N) (hh : hi ≤ cnt) (hc : cnt ≤ 39) (hlo : lo ≤ 39) : ∀ (d j k : Nat), j + d = hi → d < k →
    LF_X12_wordOf_6 N k 24 a (nI lo) (nI hi) (nI (off j)) (nI j) m Lr (GRf pb) = some (match fw b W lo d j with | some i => .inl (nI i) | none => .inr ()) := by
  intro d
  induction d with
  | zero =>
    intro j k hj hk
    obtain ⟨k, rfl⟩ : ∃ z, k = z + 1 := ⟨k - 1, by omega⟩
    have z : nI hi ≤ nI j := nI_le (by omega) (by omega)
    simp only [LF_X12_wordOf_6, if_pos z, fw]
  | succ d ih =>
    intro j k hj hk
    obtain ⟨k, rfl⟩ : ∃ z, k = z + 1 := ⟨k - 1, by omega⟩
    have z : ¬ nI hi ≤ nI j := nI_ge (by omega) (by omega)
    obtain ⟨g1, g2, g3, g4, g5⟩ := hT.2.2.2.2.2 j (by omega)
    have h8 := (sTx_ok (b + j) g1).1
    have hwl := h.2.1
    have e1 := wo_len (N := N) (pb := pb) (Lr := Lr) (y2 := nI lo) (y3 := nI hi) (y5 := nI j) hT (show j < cnt by omega) (sTx.getD (b + j) []).length 0 N (by omega) (by omega)
    have e1 : LF_X12_wordOf_15 N N 24 a (nI lo) (nI hi) (nI (off j)) (nI j) 0 m Lr (GRf pb) = _ := e1
    have e2 : ∃ s7, (if nI (sTx.getD (b + j) []).length = m 24 13 then some (1 : Int32) else some 0) = some s7 ∧ LF_X12_wordOf_50 N N 24 a (nI lo) (nI hi) (nI (off j)) (nI j) (nI (sTx.getD (b + j) []).length) s7 0 m Lr (GRf pb) = some (if sTx.getD (b + j) [] = W then 1 else 0) := by
      rw [h.2.2.2.2.1]
      by_cases q : (sTx.getD (b + j) []).length = W.length
      · refine ⟨1, by rw [if_pos (by rw [q])], ?_⟩
        rw [q]
        exact wo_cmp (N := N) (pb := pb) (Lr := Lr) (y2 := nI lo) (y3 := nI hi) (y5 := nI j) hT (show j < cnt by omega) h hn q W.length 0 N (by omega) (by omega) (fun l hl => by omega)
      · refine ⟨0, if_neg (fun z => q ((nI_eq (by omega) (by omega)).mp z)), ?_⟩
        rw [if_neg (fun g => q (by rw [g]))]
        obtain ⟨k2, rfl⟩ : ∃ z, N = z + 1 := ⟨N - 1, by omega⟩
        rw [LF_X12_wordOf_50]
        simp only [if_true, ite_self]
    obtain ⟨s7, e2, e3⟩ := e2
    have a0 : nI (off j) + (nI (sTx.getD (b + j) []).length + 1) = nI (off (j + 1)) := by rw [nI_1, nI_add, g2]
    have a1 : nI j + 1 = nI (j + 1) := nI_1 j
    have one : ((1 : Int32) = 0) = False := eq_false (by decide)
    by_cases q : sTx.getD (b + j) [] = W
    · rw [if_pos q] at e3
      by_cases p : lo ≤ j
      · have z2 : ¬ nI j < nI lo := nI_nlt (by omega) (by omega)
        simp only [LF_X12_wordOf_6, if_neg z, e1, b1e, e2, e3, one, if_false, if_neg z2, fw, if_pos (And.intro q p)]
      · have z2 : nI j < nI lo := (nI_ltI (by omega) (by omega)).mpr (by omega)
        have i1 := ih (j + 1) k (by omega) (by omega)
        simp only [LF_X12_wordOf_6, if_neg z, e1, b1e, e2, e3, one, if_false, if_pos z2, fw, if_neg (fun g : _ ∧ _ => p g.2), wre, a0, a1, i1]
    · rw [if_neg q] at e3
      have i1 := ih (j + 1) k (by omega) (by omega)
      simp only [LF_X12_wordOf_6, if_neg z, e1, b1e, e2, e3, if_true, fw, if_neg (fun g : _ ∧ _ => q g.1), wre, a0, a1, i1]
theorem wordOf_ok {a sz b cnt lo hi : Nat} {off : Nat → Nat} (hT : TB m a sz b cnt off) (h : WW n s L m W) (hn : n ≤ 4000) (hN : 5000 ≤ N) (hh : hi ≤ cnt) (hc : cnt ≤ 39) (hlo : lo ≤ 39) : F_X12_wordOf N 24 a (nI lo) (nI hi) m Lr (GRf pb) = some (oI (fw b W lo hi 0)) := by
  have e := wo_loop (N := N) (pb := pb) (Lr := Lr) hT h hn hN hh hc hlo hi 0 N (by omega) (by omega)
  rw [hT.2.2.2.2.1] at e
  have e : LF_X12_wordOf_6 N N 24 a (nI lo) (nI hi) 0 0 m Lr (GRf pb) = _ := e
  have ck : (kd a = 20 ∧ a < NN) = True := eq_true ⟨hT.1, hT.2.1⟩
  cases q : fw b W lo hi 0 with
  | none => rw [q] at e; simp only [F_X12_wordOf, ck_24, ck, if_true, e, bsr, oI]
  | some i => rw [q] at e; simp only [F_X12_wordOf, ck_24, ck, if_true, e, bsl, oI]
end P24
def offK (j : Nat) : Nat := (((List.range j).map fun i => (sTx.getD i []).length + 1)).sum
def offP (j : Nat) : Nat := (((List.range j).map fun i => (sTx.getD (22 + i) []).length + 1)).sum
theorem TB_k {m : MI} (h : TM m) : TB m 27 146 0 22 offK := by
  have hk : ∀ j, m 27 j = kwT.getD j 0 := h.2.2.1
  have d : ∀ j, j < 22 → 0 + j < 39 ∧ offK (j + 1) = offK j + ((sTx.getD (0 + j) []).length + 1) ∧ offK j + (sTx.getD (0 + j) []).length < 146 ∧ (∀ i, i < (sTx.getD (0 + j) []).length → kwT.getD (offK j + i) 0 = nI ((sTx.getD (0 + j) []).getD i 0)) ∧ kwT.getD (offK j + (sTx.getD (0 + j) []).length) 0 = 0 := by decide
  refine ⟨by decide, by decide, ln_27, by decide, rfl, fun j hj => ?_⟩
  obtain ⟨d1, d2, d3, d4, d5⟩ := d j hj
  exact ⟨d1, d2, d3, fun i hi => (hk _).trans (d4 i hi), (hk _).trans d5⟩
theorem TB_p {m : MI} (h : TM m) : TB m 29 89 22 17 offP := by
  have hk : ∀ j, m 29 j = pwT.getD j 0 := h.2.2.2.2.1
  have d : ∀ j, j < 17 → 22 + j < 39 ∧ offP (j + 1) = offP j + ((sTx.getD (22 + j) []).length + 1) ∧ offP j + (sTx.getD (22 + j) []).length < 89 ∧ (∀ i, i < (sTx.getD (22 + j) []).length → pwT.getD (offP j + i) 0 = nI ((sTx.getD (22 + j) []).getD i 0)) ∧ pwT.getD (offP j + (sTx.getD (22 + j) []).length) 0 = 0 := by decide
  refine ⟨by decide, by decide, ln_29, by decide, rfl, fun j hj => ?_⟩
  obtain ⟨d1, d2, d3, d4, d5⟩ := d j hj
  exact ⟨d1, d2, d3, fun i hi => (hk _).trans (d4 i hi), (hk _).trans d5⟩
