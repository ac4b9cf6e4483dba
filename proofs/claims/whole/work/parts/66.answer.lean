/-! T3: the layers on the reference's side, its answers, and that both sides answer alike -/
def dn : Nat → Nat → List Nat
  | 0, _ => []
  | f + 1, c => c :: (if c = 0 then [] else dn f (lbN c))
theorem dn_chn : ∀ c, c < 29 → chn c = (dn 5 c).reverse := by decide +kernel
theorem dn_len : ∀ c, c < 29 → (dn 5 c).length ≤ 5 := by decide +kernel
theorem fl4_loop {N pb : Nat} {m : MI} {L : ML} (y1 : Int32) (hM : CM m) : ∀ (f k c z : Nat), c < 29 → okf f c = true → f < k → LF_X12_findLayers_4 N k 24 y1 (nI z) (nI c) m L (GRf pb) = some (nI (z + (dn f c).length)) := by
  intro f
  induction f with
  | zero => intro k c z _ h; cases h
  | succ f ih =>
    intro k c z hc ho hk
    obtain ⟨k, rfl⟩ : ∃ q, k = q + 1 := ⟨k - 1, by omega⟩
    rw [LF_X12_findLayers_4, if_neg (nI_pos (by omega)), rf_24_0]
    simp only [Option.bind_some, wr]
    rw [ri_nI ln_25 hc (by decide), hM c hc]
    simp only [Option.bind_some]
    by_cases q : c = 0
    · subst q
      obtain ⟨k, rfl⟩ : ∃ q, k = q + 1 := ⟨k - 1, by omega⟩
      rw [LF_X12_findLayers_4, if_pos (by decide), nI_1]
      rfl
    · have h1 : lbI c = nI (lbN c) := by simp [lbI, q]
      rw [h1, nI_1, ih k (lbN c) (z + 1) (lbN_lt c hc) (by simpa [okf, q] using ho) (by omega)]
      have e : (dn (f + 1) c).length = (dn f (lbN c)).length + 1 := by simp [dn, q]
      rw [e, Nat.add_assoc, Nat.add_comm 1]
theorem wre {α β : Type} (x : α) (g : α → β) : wr x g = g x := (Eq.refl _).trans rfl
theorem bse {α β : Type} (a : α) (f : α → Option β) : (some a).bind f = f a := (Eq.refl _).trans rfl
theorem b1e {α β : Type} (a : α) (f : α → Option β) : bn1 (some a) f = f a := (Eq.refl _).trans rfl
theorem b2e {α β γ : Type} (a : α) (b : β) (f : α → β → Option γ) : bn2 (some (a, b)) f = f a b := (Eq.refl _).trans rfl
theorem b3e {α β δ γ : Type} (a : α) (b : β) (d : δ) (f : α → β → δ → Option γ) : bn3 (some (a, b, d)) f = f a b d := (Eq.refl _).trans rfl
theorem fl26_step {N k z c pb : Nat} {m : MI} {L : ML} (y2 : Int32) (hM : CM m) (hc : c < 29) (hz : z < 6) : LF_X12_findLayers_26 N (k + 1) 24 y2 (nI (z + 1)) (nI c) m L (GRf pb) = LF_X12_findLayers_26 N k 24 y2 (nI z) (lbI c) (uI m 41 z (nI c)) L (GRf pb) := by
  have e2 : uI m 41 z (nI c) 25 c = lbI c := by rw [uI_at (by omega)]; exact hM c hc
  rw [LF_X12_findLayers_26, if_neg (nI_pos (by omega)), rf_24_32, wre, bse, pk_m1, wi_nI ln_41 hz (by decide), bse, rf_24_0, bse, ri_nI ln_25 hc (by decide), e2, bse]
theorem fl26_loop {N pb : Nat} {L : ML} (y2 : Int32) : ∀ (f k c : Nat) (m : MI), CM m → c < 29 → okf f c = true → (dn f c).length ≤ 5 → f < k →
    ∃ m', LF_X12_findLayers_26 N k 24 y2 (nI (dn f c).length) (nI c) m L (GRf pb) = some m' ∧ (∀ i, i < (dn f c).length → m' 41 i = nI ((dn f c).reverse.getD i 0)) ∧ ∀ o p, ¬ (o = 41 ∧ p < (dn f c).length) → m' o p = m o p := by
  intro f
  induction f with
  | zero => intro k c m _ _ h; cases h
  | succ f ih =>
    intro k c m hM hc ho hl hk
    obtain ⟨k, rfl⟩ : ∃ q, k = q + 1 := ⟨k - 1, by omega⟩
    have hM1 : ∀ j v, CM (uI m 41 j v) := fun j v i hi => by rw [uI_at (by omega)]; exact hM i hi
    by_cases q : c = 0
    · subst q
      obtain ⟨k, rfl⟩ : ∃ q, k = q + 1 := ⟨k - 1, by omega⟩
      have e1 : dn (f + 1) 0 = [0] := by simp [dn]
      rw [e1]
      refine ⟨uI m 41 0 (nI 0), ?_, ?_, ?_⟩
      · refine (fl26_step (z := 0) y2 hM (by decide) (by decide)).trans ?_
        rw [LF_X12_findLayers_26, if_pos (show lbI 0 < 0 by decide)]
      · intro i hi
        have : i = 0 := by simp at hi; omega
        subst this
        rw [uI_same]
        simp
      · intro o p h
        rw [uI_at (by simp at h; omega)]
    · have h1 : lbI c = nI (lbN c) := by simp [lbI, q]
      have e1 : dn (f + 1) c = c :: dn f (lbN c) := by simp [dn, q]
      rw [e1] at hl ⊢
      rw [List.length_cons] at hl ⊢
      obtain ⟨m', g1, g2, g3⟩ := ih k (lbN c) (uI m 41 (dn f (lbN c)).length (nI c)) (hM1 _ _) (lbN_lt c hc) (by simpa [okf, q] using ho) (by omega) (by omega)
      refine ⟨m', ?_, ?_, ?_⟩
      · rw [fl26_step y2 hM hc (by omega), h1]
        exact g1
      · intro i hi
        rw [List.reverse_cons, List.getD_eq_getElem?_getD]
        by_cases hi2 : i < (dn f (lbN c)).length
        · rw [g2 i hi2, List.getElem?_append_left (by simpa using hi2), List.getD_eq_getElem?_getD]
        · have : i = (dn f (lbN c)).length := by omega
          subst this
          rw [g3 _ _ (by omega), uI_same, List.getElem?_append_right (by simp)]
          simp
      · intro o p h
        rw [g3 o p (by omega), uI_at (by omega)]
theorem fl_ok {N pb c : Nat} {m : MI} {L : ML} (hN : 7 ≤ N) (hM : CM m) (hc : c < 29) :
    ∃ m', F_X12_findLayers N 24 (nI c) m L (GRf pb) = some (nI (chn c).length, m') ∧ (∀ i, i < (chn c).length → m' 41 i = nI ((chn c).getD i 0)) ∧ ∀ o p, ¬ (o = 41 ∧ p < (chn c).length) → m' o p = m o p := by
  have h1 := fl4_loop (N := N) (pb := pb) (L := L) (nI c) hM 5 N c 0 hc (okf_5 c hc) (by omega)
  obtain ⟨m', g1, g2, g3⟩ := fl26_loop (N := N) (pb := pb) (L := L) (nI (dn 5 c).length) 5 N c m hM hc (okf_5 c hc) (dn_len c hc) (by omega)
  have el : (chn c).length = (dn 5 c).length := by rw [dn_chn c hc, List.length_reverse]
  refine ⟨m', ?_, ?_, ?_⟩
  · simp only [F_X12_findLayers, ck_24, if_true]
    rw [show (0 : Int32) = nI 0 from rfl, h1]
    simp only [bn1, Option.bind_some, Nat.zero_add]
    rw [g1, el]
    rfl
  · rw [el, dn_chn c hc]; exact g2
  · rw [el]; exact g3
/-- the parts of unit u on the reference's side -/
abbrev Pm (m : MI) (u : Nat) : Nat → Int32 := fun k => m 37 (65 * u + k)
theorem ansM_loop {N pb u q n : Nat} {m : MI} {L : ML} {ls : List Nat} (hu : u < 20) (hq : q < 6) (h49 : nn (m 37 (65 * u + 49)) 100000) (h59 : nn (m 37 (65 * u + 59)) 100000) (hn : ls.length = n) (h5 : n ≤ 5) (hl : ∀ i, i < n → m 41 i = nI (ls.getD i 0)) : ∀ (j i k : Nat) (x : Int32), i + j = n → j < k → LF_X12_answer_17 N k 24 (nI u) (nI q) (nI n) x (nI i) m L (GRf pb) = some (foldQ q (Pm m u) (ls.drop i) x) := by
  intro j
  induction j with
  | zero =>
    intro i k x hi hk
    obtain ⟨k, rfl⟩ : ∃ z, k = z + 1 := ⟨k - 1, by omega⟩
    rw [LF_X12_answer_17, if_pos (nI_le (by omega) (by omega)), foldQ_end (by omega)]
  | succ j ih =>
    intro i k x hi hk
    obtain ⟨k, rfl⟩ : ∃ z, k = z + 1 := ⟨k - 1, by omega⟩
    rw [LF_X12_answer_17, if_neg (nI_ge (by omega) (by omega)), rf_24_32]
    simp only [Option.bind_some]
    rw [ri_nI ln_41 (show i < 6 by omega) (by decide), hl i (by omega)]
    simp only [Option.bind_some, wr]
    rw [foldQ_step (by omega), ← ih (i + 1) k _ (by omega) (by omega), ← nI_1, massM_ok hu, spanM_ok hu h49 h59, needM_ok hu, testM_ok hu, channelsM_ok hu, pushM_ok hu]
    rcases (show q = 0 ∨ q = 1 ∨ q = 2 ∨ q = 3 ∨ q = 4 ∨ q = 5 by omega) with rfl | rfl | rfl | rfl | rfl | rfl
    · rw [if_pos (by decide)]; rfl
    · rw [if_neg (by decide), if_pos (by decide)]; rfl
    · rw [if_neg (by decide), if_neg (by decide), if_pos (by decide)]; rfl
    · rw [if_neg (by decide), if_neg (by decide), if_neg (by decide), if_pos (by decide)]; rfl
    · rw [if_neg (by decide), if_neg (by decide), if_neg (by decide), if_neg (by decide), if_pos (by decide)]; rfl
    · rw [if_neg (by decide), if_neg (by decide), if_neg (by decide), if_neg (by decide), if_neg (by decide)]; rfl
theorem ansM_ok {N pb u q c : Nat} {m : MI} {L : ML} (hN : 7 ≤ N) (hM : CM m) (hu : u < 20) (hq : q < 6) (hc : c < 29) (h0 : m 37 (65 * u) = nI c) (h49 : nn (m 37 (65 * u + 49)) 100000) (h59 : nn (m 37 (65 * u + 59)) 100000) :
    ∃ m', F_X12_answer N 24 (nI u) (nI q) m L (GRf pb) = some (ansV q c (Pm m u), m') ∧ ∀ o p, o ≠ 41 → m' o p = m o p := by
  obtain ⟨m', g1, g2, g3⟩ := fl_ok (N := N) (pb := pb) (L := L) hN hM hc
  have e : ∀ o p, o ≠ 41 → m' o p = m o p := fun o p h => g3 o p (by omega)
  have hl := ansM_loop (N := N) (pb := pb) (L := L) (q := q) (n := (chn c).length) (ls := chn c) (m := m') hu hq (by rw [e 37 _ (by decide)]; exact h49) (by rw [e 37 _ (by decide)]; exact h59) rfl (chn_len c hc) g2 (chn c).length 0 N 0 (by omega) (by have := chn_len c hc; omega)
  refine ⟨m', ?_, e⟩
  simp only [F_X12_answer, ck_24, if_true, gt_0 hu, bn1, Option.bind_some, Nat.add_zero]
  rw [h0, g1]
  simp only [bn2, Option.bind_some]
  rw [show (0 : Int32) = nI 0 from rfl] at hl ⊢
  rw [hl]
  have ep : Pm m' u = Pm m u := funext fun k => e 37 _ (by decide)
  rw [ep]
  rfl
/-- the parts that an answer of this code can look at -/
def seen (c k : Nat) : Prop := (k = 12 → isL c 2 = true) ∧ (k = 46 → c = 17) ∧ (k = 55 → c = 24) ∧ k ≠ 22
theorem seen_lo {c k : Nat} (h1 : k ≠ 12) (h2 : k ≠ 46) (h3 : k ≠ 55) (h4 : k ≠ 22) : seen c k := ⟨fun q => absurd q h1, fun q => absurd q h2, fun q => absurd q h3, h4⟩
theorem chn_fact : ∀ c, c < 29 → ∀ l ∈ chn c, l < 29 ∧ (l = 3 → isL c 2 = true) ∧ (l = 2 → isL c 2 = true) ∧ (l = 17 → c = 17) ∧ (l = 24 → c = 24) := by decide +kernel
theorem byQ_congr {q c l : Nat} {P P' : Nat → Int32} {x : Int32} (hc : c < 29) (hl : l ∈ chn c) (h : ∀ k, k < 65 → seen c k → P k = P' k) : byQ q (nI l) P x = byQ q (nI l) P' x := by
  obtain ⟨f0, f1, f2, f3, f4⟩ := chn_fact c hc l hl
  have e : ∀ k, k < 65 → k ≠ 12 → k ≠ 46 → k ≠ 55 → k ≠ 22 → P k = P' k := fun k h0 h1 h2 h3 h4 => h k h0 (seen_lo h1 h2 h3 h4)
  have e12 : isL c 2 = true → P 12 = P' 12 := fun z => h 12 (by decide) ⟨fun _ => z, fun y => by omega, fun y => by omega, by decide⟩
  have e46 : c = 17 → P 46 = P' 46 := fun z => h 46 (by decide) ⟨fun y => by omega, fun _ => z, fun y => by omega, by decide⟩
  have e55 : c = 24 → P 55 = P' 55 := fun z => h 55 (by decide) ⟨fun y => by omega, fun y => by omega, fun _ => z, by decide⟩
  have t2 : nI l = 2 → P 12 = P' 12 := fun z => e12 (f2 ((nI_eq (by omega) (by decide)).mp z))
  have t3 : nI l = 3 → P 12 = P' 12 := fun z => e12 (f1 ((nI_eq (by omega) (by decide)).mp z))
  have t17 : nI l = 17 → P 46 = P' 46 := fun z => e46 (f3 ((nI_eq (by omega) (by decide)).mp z))
  have t24 : nI l = 24 → P 55 = P' 55 := fun z => e55 (f4 ((nI_eq (by omega) (by decide)).mp z))
  unfold byQ by_mass by_span by_need by_test by_channels by_push
  simp only [e 2 (by decide) (by decide) (by decide) (by decide) (by decide), e 3 (by decide) (by decide) (by decide) (by decide) (by decide), e 7 (by decide) (by decide) (by decide) (by decide) (by decide), e 9 (by decide) (by decide) (by decide) (by decide) (by decide), e 11 (by decide) (by decide) (by decide) (by decide) (by decide), e 14 (by decide) (by decide) (by decide) (by decide) (by decide), e 16 (by decide) (by decide) (by decide) (by decide) (by decide), e 17 (by decide) (by decide) (by decide) (by decide) (by decide), e 18 (by decide) (by decide) (by decide) (by decide) (by decide), e 23 (by decide) (by decide) (by decide) (by decide) (by decide), e 25 (by decide) (by decide) (by decide) (by decide) (by decide), e 26 (by decide) (by decide) (by decide) (by decide) (by decide), e 28 (by decide) (by decide) (by decide) (by decide) (by decide), e 30 (by decide) (by decide) (by decide) (by decide) (by decide), e 31 (by decide) (by decide) (by decide) (by decide) (by decide), e 34 (by decide) (by decide) (by decide) (by decide) (by decide), e 35 (by decide) (by decide) (by decide) (by decide) (by decide), e 36 (by decide) (by decide) (by decide) (by decide) (by decide), e 38 (by decide) (by decide) (by decide) (by decide) (by decide), e 39 (by decide) (by decide) (by decide) (by decide) (by decide), e 42 (by decide) (by decide) (by decide) (by decide) (by decide), e 43 (by decide) (by decide) (by decide) (by decide) (by decide), e 45 (by decide) (by decide) (by decide) (by decide) (by decide), e 47 (by decide) (by decide) (by decide) (by decide) (by decide), e 48 (by decide) (by decide) (by decide) (by decide) (by decide), e 49 (by decide) (by decide) (by decide) (by decide) (by decide), e 54 (by decide) (by decide) (by decide) (by decide) (by decide), e 57 (by decide) (by decide) (by decide) (by decide) (by decide), e 59 (by decide) (by decide) (by decide) (by decide) (by decide), e 61 (by decide) (by decide) (by decide) (by decide) (by decide)]
  by_cases z2 : nI l = 2
  · simp only [z2, t2 z2]; rfl
  by_cases z3 : nI l = 3
  · simp only [z3, t3 z3]; rfl
  by_cases z17 : nI l = 17
  · simp only [z17, t17 z17]; rfl
  by_cases z24 : nI l = 24
  · simp only [z24, t24 z24]; rfl
  simp only [if_neg z2, if_neg z3, if_neg z17, if_neg z24]
theorem foldQ_congr {q c : Nat} {P P' : Nat → Int32} (hc : c < 29) (h : ∀ k, k < 65 → seen c k → P k = P' k) : ∀ (ls : List Nat) (x : Int32), (∀ l ∈ ls, l ∈ chn c) → foldQ q P ls x = foldQ q P' ls x := by
  intro ls
  induction ls with
  | nil => intro x _; rfl
  | cons l ls ih =>
    intro x hl
    have e := byQ_congr (q := q) (x := x) hc (hl l List.mem_cons_self) h
    unfold foldQ at ih ⊢
    rw [List.foldl_cons, List.foldl_cons, e]
    exact ih _ (fun y hy => hl y (List.mem_cons_of_mem _ hy))
theorem ansV_congr {q c : Nat} {P P' : Nat → Int32} (hc : c < 29) (h : ∀ k, k < 65 → seen c k → P k = P' k) : ansV q c P = ansV q c P' := foldQ_congr hc h _ _ (fun _ z => z)
