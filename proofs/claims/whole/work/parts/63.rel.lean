/-! T3: the relation between the class's memory c and the reference's m -/
def Sm {α β : Type} (x : Option α) (y : Option β) (Q : α → β → Prop) : Prop := ∃ a b, x = some a ∧ y = some b ∧ Q a b
theorem Sm.mk {α β : Type} {a : α} {b : β} {Q : α → β → Prop} (h : Q a b) : Sm (some a) (some b) Q := ⟨a, b, rfl, rfl, h⟩
theorem Sm.bb {α β γ δ : Type} {x : Option α} {y : Option β} {f : α → Option γ} {g : β → Option δ} {P : α → β → Prop} {Q : γ → δ → Prop} (h : Sm x y P) (k : ∀ a b, P a b → Sm (f a) (g b) Q) : Sm (x.bind f) (y.bind g) Q := by
  obtain ⟨a, b, rfl, rfl, hp⟩ := h
  exact k a b hp
theorem Sm.imp {α β : Type} {x : Option α} {y : Option β} {P Q : α → β → Prop} (h : Sm x y P) (k : ∀ a b, P a b → Q a b) : Sm x y Q := by
  obtain ⟨a, b, h1, h2, hp⟩ := h
  exact ⟨a, b, h1, h2, k a b hp⟩
/-- the cells that hold one int on both sides: class (o, p), reference (a, b) -/
def scT : List (Nat × Nat × Nat) := [(1, 4, 25), (1, 5, 26), (1, 6, 27), (1, 7, 28), (1, 8, 46), (10, 6, 34), (10, 7, 35), (10, 8, 47), (10, 9, 41), (10, 10, 42), (10, 11, 44), (10, 12, 45), (16, 2, 48), (16, 3, 49), (16, 4, 39), (16, 5, 40), (18, 1, 43)]
def Mt (ob : Nat → Nat → Prop) (pb : Nat) (o p a b : Nat) : Prop :=
  (∃ u, u < 20 ∧ p < 65 ∧ ob u p ∧ o = 59 + 4 * u ∧ a = 37 ∧ b = 65 * u + p) ∨
  (a = 24 ∧ (o, p, b) ∈ scT) ∨
  (p < 3 ∧ b = p ∧ ((o = 13 ∧ a = 43) ∨ (o = 14 ∧ a = 44) ∨ (o = 15 ∧ a = 45))) ∨
  (o = 3 ∧ b < 100 ∧ 38 ≤ a ∧ a < 41 ∧ p = 3 * b + (a - 38)) ∨
  (o = 19 ∧ a = 46 ∧ p < 500 ∧ b = p) ∨
  (b < 30 ∧ o = 142 + 31 * pb + b ∧ 50 ≤ a ∧ a < 54 ∧ p + 43 = a)
theorem scT_in : ∀ x ∈ scT, (x.1 = 1 ∨ x.1 = 10 ∨ x.1 = 16 ∨ x.1 = 18) ∧ x.2.1 < 13 ∧ ∀ y ∈ scT, ((x.1 = y.1 ∧ x.2.1 = y.2.1) ↔ x.2.2 = y.2.2) := by decide
theorem Mt.one {ob : Nat → Nat → Prop} {pb o p a b o2 p2 a2 b2 : Nat} (h : Mt ob pb o p a b) (h2 : Mt ob pb o2 p2 a2 b2) : (o = o2 ∧ p = p2) ↔ (a = a2 ∧ b = b2) := by
  rcases h with ⟨u, h⟩ | ⟨h0, h⟩ | h | h | h | h
  all_goals rcases h2 with ⟨v, g⟩ | ⟨g0, g⟩ | g | g | g | g
  all_goals first
    | omega
    | (have e := (scT_in _ h).1; simp only at e; omega)
    | (have e := (scT_in _ g).1; simp only at e; omega)
    | skip
  have e := (scT_in _ h).2.2 _ g
  simp only at e
  rw [e]
  omega
/-- items count as far as the plan goes -/
def RQ (ob : Nat → Nat → Prop) (pb : Nat) (c m : MI) : Prop := ∀ o p a b, Mt ob pb o p a b → (142 ≤ o → b < ix (m 24 54)) → c o p = m a b
theorem Mt.n54 {ob : Nat → Nat → Prop} {pb o p a b : Nat} (h : Mt ob pb o p a b) : ¬ (24 = a ∧ 54 = b) := by
  rintro ⟨rfl, rfl⟩
  have hx : ∀ x ∈ scT, x.2.2 < 50 := by decide
  rcases h with ⟨u, g⟩ | ⟨g0, g⟩ | g | g | g | g
  · omega
  · have := hx _ g
    simp only at this
    omega
  · omega
  · omega
  · omega
  · omega
theorem RQ.up {ob : Nat → Nat → Prop} {pb : Nat} {c m : MI} {o p a b : Nat} {v w : Int32} (h : RQ ob pb c m) (ht : Mt ob pb o p a b) (hv : v = w) : RQ ob pb (uI c o p v) (uI m a b w) := by
  subst hv
  intro o2 p2 a2 b2 h2 hg
  have e := ht.one h2
  by_cases q : o2 = o ∧ p2 = p
  · obtain ⟨rfl, rfl⟩ := q
    obtain ⟨rfl, rfl⟩ := e.mp ⟨rfl, rfl⟩
    rw [uI_same, uI_same]
  · have q3 : ¬ (a2 = a ∧ b2 = b) := fun q2 => q (by have z := e.mpr ⟨q2.1.symm, q2.2.symm⟩; exact ⟨z.1.symm, z.2.symm⟩)
    rw [uI_at q, uI_at q3]
    exact h _ _ _ _ h2 (fun z => by have y := hg z; rw [uI_at ht.n54] at y; exact y)
/-- changes outside the cells that are compared -/
theorem RQ.out {ob : Nat → Nat → Prop} {pb : Nat} {c m c' m' : MI} (h : RQ ob pb c m) (hc : ∀ o p, (o = 1 ∨ o = 3 ∨ o = 10 ∨ o = 13 ∨ o = 14 ∨ o = 15 ∨ o = 16 ∨ o = 18 ∨ o = 19 ∨ (58 ≤ o ∧ (o - 58) % 4 = 1 ∧ o < 142) ∨ (142 ≤ o ∧ 7 ≤ p)) → c' o p = c o p) (hm : ∀ o p, (o = 24 ∧ 25 ≤ p ∨ 37 ≤ o ∧ o ≤ 40 ∨ 43 ≤ o ∧ o ≤ 46 ∨ 50 ≤ o ∧ o ≤ 53) → m' o p = m o p) : RQ ob pb c' m' := by
  intro o p a b ht hg
  have e := h o p a b ht (fun z => by rw [← hm 24 54 (by omega)]; exact hg z)
  have hsc : ∀ x ∈ scT, 25 ≤ x.2.2 := by decide
  rcases ht with ⟨u, g⟩ | ⟨g0, g⟩ | g | g | g | g
  · rw [hc o p (by omega), hm a b (by omega)]; exact e
  · have e1 := (scT_in _ g).1
    have e2 := hsc _ g
    simp only at e1 e2
    rw [hc o p (by omega), hm a b (by omega)]; exact e
  · rw [hc o p (by omega), hm a b (by omega)]; exact e
  · rw [hc o p (by omega), hm a b (by omega)]; exact e
  · rw [hc o p (by omega), hm a b (by omega)]; exact e
  · rw [hc o p (by omega), hm a b (by omega)]; exact e
/-- the layers of a code, the lowest first; a number from 0 to h; the codes that a book can name -/
def chn (c : Nat) : List Nat := (List.range 29).filter (isL c)
def nn (x : Int32) (h : Nat) : Prop := ∃ k, k ≤ h ∧ x = nI k
def n1 (x : Int32) (h : Nat) : Prop := ∃ k, 1 ≤ k ∧ k ≤ h ∧ x = nI k
def kin (c : Nat) : Prop := c ∈ [2, 3, 4, 5, 7, 8, 10, 11, 12, 13, 14, 16, 17, 18, 19, 20, 21, 23, 24, 25, 27, 28]
theorem kin.lt {c : Nat} (h : kin c) : c < 29 := (show ∀ c ∈ [2, 3, 4, 5, 7, 8, 10, 11, 12, 13, 14, 16, 17, 18, 19, 20, 21, 23, 24, 25, 27, 28], c < 29 by decide) c h
def ob (n : Nat) (cd : Nat → Nat) (u k : Nat) : Prop := u < n ∧ (k = 12 → isL (cd u) 2 = true) ∧ (k = 46 → cd u = 17) ∧ (k = 55 → cd u = 24) ∧ (k = 22 → isL (cd u) 6 = true)
def dynP (k : Nat) : Prop := k = 10 ∨ k = 22 ∨ k = 32 ∨ k = 40 ∨ k = 44 ∨ k = 51 ∨ k = 56 ∨ k = 62 ∨ k = 63 ∨ k = 64
/-- what a made unit's lasting parts keep to -/
def SI (n : Nat) (cd : Nat → Nat) (u : Nat) (P : Nat → Int32) : Prop :=
  nn (P 9) 2000 ∧ nn (P 23) 50 ∧ nn (P 43) 2000 ∧ nn (P 61) 100 ∧ nn (P 49) 10000 ∧ nn (P 59) 19 ∧ nn (P 39) 10 ∧ nn (P 50) 40 ∧ (nn (P 35) 2 ∧ nn (P 4) 1000 ∧ nn (P 5) 10) ∧
  ((isL (cd u) 9 = true ∨ cd u = 21) → n1 (P 31) 50) ∧ (cd u = 19 → n1 (P 48) 50) ∧
  ((cd u = 8 ∨ cd u = 13) → ∃ v, v < n ∧ P 27 = nI v) ∧ (cd u = 14 → ∃ v, v < n ∧ cd v = 5 ∧ P 27 = nI v) ∧ ((isL (cd u) 18 = true ∨ cd u = 25) → ∃ v, v < n ∧ cd v = 4 ∧ P 27 = nI v) ∧
  (isL (cd u) 26 = true → ∃ v w, v < n ∧ w < n ∧ P 59 = nI v ∧ P 60 = nI w ∧ (cd u = 28 → cd v = 4 ∧ cd w = 4))
theorem SI.congr {n : Nat} {cd : Nat → Nat} {u : Nat} {P P' : Nat → Int32} (h : SI n cd u P) (e : ∀ k, k < 65 → ¬ dynP k → P' k = P k) : SI n cd u P' := by
  unfold SI
  rw [e 9 (by decide) (by unfold dynP; omega), e 23 (by decide) (by unfold dynP; omega), e 43 (by decide) (by unfold dynP; omega), e 61 (by decide) (by unfold dynP; omega), e 49 (by decide) (by unfold dynP; omega), e 59 (by decide) (by unfold dynP; omega), e 39 (by decide) (by unfold dynP; omega), e 50 (by decide) (by unfold dynP; omega), e 35 (by decide) (by unfold dynP; omega), e 4 (by decide) (by unfold dynP; omega), e 5 (by decide) (by unfold dynP; omega), e 31 (by decide) (by unfold dynP; omega), e 48 (by decide) (by unfold dynP; omega), e 27 (by decide) (by unfold dynP; omega), e 60 (by decide) (by unfold dynP; omega)]
  exact h
/-- the numbers that a unit was given -/
def mny (c : Nat) : Nat := if c = 2 ∨ c = 4 ∨ c = 5 ∨ c = 7 then 1 else if c = 8 ∨ c = 10 ∨ c = 11 ∨ c = 13 ∨ c = 14 ∨ c = 18 ∨ c = 19 ∨ c = 28 then 3 else 2
def FT (n : Nat) (cd : Nat → Nat) (u : Nat) (X : Nat → Int32) : Prop :=
  ((cd u = 2 ∨ cd u = 3 ∨ cd u = 4 ∨ cd u = 5) → n1 (X 0) 2000) ∧ (cd u = 3 → n1 (X 1) 8) ∧ (isL (cd u) 22 = true → n1 (X 0) 200) ∧ ((cd u = 23 ∨ cd u = 24) → nn (X 1) 3) ∧
  (cd u = 25 → ∃ v, v < n ∧ cd v = 4 ∧ X 1 = nI v) ∧ (isL (cd u) 26 = true → ∃ v w, v < n ∧ w < n ∧ X 0 = nI v ∧ X 1 = nI w ∧ (cd u = 28 → cd v = 4 ∧ cd w = 4)) ∧ (cd u = 28 → n1 (X 2) 9) ∧
  (isL (cd u) 6 = true → n1 (X 0) 50) ∧ (cd u = 8 → ∃ v, v < n ∧ X 1 = nI v) ∧ (isL (cd u) 9 = true → n1 (X 1) 50) ∧ (isL (cd u) 10 = true → nn (X 2) 2) ∧ (cd u = 13 → ∃ v, v < n ∧ X 2 = nI v) ∧ (cd u = 14 → ∃ v, v < n ∧ cd v = 5 ∧ X 2 = nI v) ∧
  (isL (cd u) 15 = true → nn (X 1) 2) ∧ (isL (cd u) 18 = true → ∃ v, v < n ∧ cd v = 4 ∧ X 2 = nI v) ∧ (isL (cd u) 20 = true → n1 (X 1) 40)
/-- the reference's tables -/
def oweT : List Int32 := [0, 0, 0, 0, 0, 0, 0, 1, 1, 1, 1, 2, 2, 2, 3, 3, 3, 4, 5, 5, 5, 6, 6, 6, 6, 7, 8, 8, 8, 9, 9, 9, 9, 10, 10, 10, 11, 12, 13, 14, 14, 15, 15, 16, 16, 17, 17, 18, 19, 20, 20, 20, 22, 23, 23, 24, 24, 25, 26, 26, 26, 27, 0, 0, 0]
def kwT : List Int32 := [98, 97, 116, 116, 101, 114, 121, 0, 99, 101, 108, 108, 112, 97, 99, 107, 0, 116, 97, 110, 107, 0, 114, 101, 99, 111, 114, 100, 101, 114, 0, 104, 101, 97, 116, 101, 114, 0, 116, 104, 101, 114, 109, 111, 0, 103, 121, 114, 111, 0, 102, 105, 110, 101, 103, 121, 114, 111, 0, 115, 117, 110, 101, 121, 101, 0, 112, 114, 111, 98, 101, 0, 99, 97, 109, 101, 114, 97, 0, 119, 104, 101, 101, 108, 0, 99, 111, 105, 108, 0, 106, 101, 116, 0, 112, 117, 108, 115, 101, 114, 0, 114, 97, 100, 105, 111, 0, 98, 101, 97, 99, 111, 110, 0, 112, 97, 110, 101, 108, 0, 116, 114, 97, 99, 107, 101, 114, 0, 114, 101, 97, 99, 116, 111, 114, 0, 112, 105, 112, 101, 0, 104, 111, 115, 101, 0]
def kcT : List Int32 := [2, 3, 4, 5, 7, 8, 10, 11, 12, 13, 14, 16, 17, 18, 19, 20, 21, 23, 24, 25, 27, 28]
def pwT : List Int32 := [97, 116, 0, 101, 97, 99, 104, 0, 119, 104, 101, 110, 0, 108, 101, 118, 101, 108, 0, 104, 101, 97, 116, 0, 115, 112, 101, 101, 100, 0, 114, 101, 97, 100, 105, 110, 103, 0, 108, 105, 103, 104, 116, 0, 97, 110, 103, 108, 101, 0, 114, 97, 116, 101, 0, 111, 110, 0, 111, 102, 102, 0, 109, 111, 100, 101, 0, 97, 105, 109, 0, 114, 101, 115, 116, 97, 114, 116, 0, 119, 105, 112, 101, 0, 115, 116, 111, 112, 0]
def fallT : List Int32 := [100, 99, 96, 91, 84, 75, 64, 51, 38, 25, 14, 6, 2, 0, 0, 0]
def TM (m : MI) : Prop := CM m ∧ (∀ j, m 26 j = oweT.getD j 0) ∧ (∀ j, m 27 j = kwT.getD j 0) ∧ (∀ j, m 28 j = kcT.getD j 0) ∧ (∀ j, m 29 j = pwT.getD j 0) ∧ (∀ j, m 54 j = fallT.getD j 0)
/-- an item of the plan -/
def IT (n : Nat) (cd : Nat → Nat) (x i : Nat) (c m : MI) : Prop :=
  ((m 49 (8 * i) = 0 ∧ c x 0 = 0) ∨ (m 49 (8 * i) = 1 ∧ c x 0 = 1 ∧ n1 (m 49 (8 * i + 1)) 9999) ∨
   (m 49 (8 * i) = 2 ∧ ((m 49 (8 * i + 4) = 1 ∧ c x 0 = 3) ∨ (m 49 (8 * i + 4) = 0 ∧ c x 0 = 2)) ∧
    ∃ w s, w ≤ 6 ∧ m 49 (8 * i + 2) = nI (w + 3) ∧ c x 2 = nI w ∧ m 49 (8 * i + 3) = nI s ∧ c x 3 = nI s ∧ (w < 4 → s < n) ∧ ((w = 5 ∨ w = 6) → s < 3))) ∧
  c x 1 = m 49 (8 * i + 1) ∧ c x 5 = m 49 (8 * i + 6) ∧ c x 6 = m 49 (8 * i + 7) ∧
  ∃ a, a ≤ 6 ∧ m 49 (8 * i + 5) = nI a ∧ c x 4 = nI a ∧ ((a = 0 ∨ a = 1 ∨ a = 4) → ∃ v, v < n ∧ m 49 (8 * i + 6) = nI v) ∧ (a = 5 → ∃ v, v < n ∧ cd v = 5 ∧ m 49 (8 * i + 6) = nI v) ∧ (a = 2 → nn (m 49 (8 * i + 6)) 3) ∧ (a = 3 → nn (m 49 (8 * i + 6)) 2) ∧ (a = 6 → nn (m 49 (8 * i + 6)) 29)
def PL (n : Nat) (cd : Nat → Nat) (pb : Nat) (c m : MI) : Prop := ∃ q, q ≤ 30 ∧ m 24 54 = nI q ∧ c (20 + 2 * pb) 2 = nI q ∧ ∀ i, i < q → IT n cd (142 + 31 * pb + i) i c m
/-- a name: letter k of a long -/
def letL (x : Int64) (k : Nat) : Int32 := Int64.toInt32 (lU x ((8 : Int32) * nI k)) &&& 255
/-- all that a tick doesn't change -/
def Sta (n : Nat) (cd : Nat → Nat) (pb : Nat) (L : ML) (c m : MI) : Prop :=
  n ≤ 20 ∧ pb ≤ 1 ∧ c 1 3 = nI n ∧ m 24 21 = nI n ∧ TM m ∧ RT c m ∧ PL n cd pb c m ∧
  ∀ u, u < n → kin (cd u) ∧ c (U u) 8 = bitsI (cd u) ∧ c (U u) 7 = nI (chn (cd u)).length ∧ (∀ i, i < (chn (cd u)).length → c (U u + 2) i = nI ((chn (cd u)).getD i 0)) ∧ m 37 (65 * u) = nI (cd u) ∧
    SI n cd u (fun k => m 37 (65 * u + k)) ∧ FT n cd u (fun k => m 36 (3 * u + k)) ∧ (∀ i, i < mny (cd u) → c (U u) (4 + i) = m 36 (3 * u + i)) ∧ (∀ k, k < 8 → letL (L (U u) 3) k = m 35 (8 * u + k))
def stc (o p : Nat) : Prop := (o = 1 ∧ p = 3) ∨ (o = 4 ∧ (p = 1 ∨ p = 8 ∨ p = 9)) ∨ o = 5 ∨ o = 20 ∨ o = 22 ∨ (58 ≤ o ∧ o < 142 ∧ ((o - 58) % 4 = 0 ∧ p ≤ 8 ∨ (o - 58) % 4 = 2)) ∨ (142 ≤ o ∧ p ≤ 6)
def stm (o p : Nat) : Prop := (o = 24 ∧ (p = 7 ∨ p = 15 ∨ p = 16 ∨ p = 21 ∨ p = 54)) ∨ (25 ≤ o ∧ o ≤ 30) ∨ o = 35 ∨ o = 36 ∨ o = 49 ∨ o = 54 ∨ (o = 37 ∧ ¬ dynP (p % 65))
theorem IT.congr {n : Nat} {cd : Nat → Nat} {x i : Nat} {c m c' m' : MI} (h : IT n cd x i c m) (hc : ∀ p, p ≤ 6 → c' x p = c x p) (hm : ∀ p, m' 49 p = m 49 p) : IT n cd x i c' m' := by
  unfold IT
  rw [hc 0 (by decide), hc 1 (by decide), hc 2 (by decide), hc 3 (by decide), hc 4 (by decide), hc 5 (by decide), hc 6 (by decide)]
  simp only [hm]
  exact h
theorem RT.congr {c m c' m' : MI} (h : RT c m) (hc : ∀ o p, (o = 4 ∧ (p = 1 ∨ p = 8 ∨ p = 9)) ∨ o = 5 → c' o p = c o p) (hm : ∀ o p, (o = 24 ∧ (p = 7 ∨ p = 15 ∨ p = 16)) ∨ o = 30 → m' o p = m o p) : RT c' m' := by
  unfold RT
  rw [hc 4 1 (by omega), hc 4 8 (by omega), hc 4 9 (by omega), hm 24 7 (by omega), hm 24 15 (by omega), hm 24 16 (by omega)]
  obtain ⟨q, h1, h2, h3, h4, h5, h6⟩ := h
  refine ⟨q, h1, h2, h3, ?_, h5, h6⟩
  intro j hj
  rw [hc 5 j (by omega), hm 30 j (by omega)]
  exact h4 j hj
theorem PL.congr {n : Nat} {cd : Nat → Nat} {pb : Nat} {c m c' m' : MI} (h : PL n cd pb c m) (h1 : pb ≤ 1) (hc : ∀ o p, o = 20 ∨ o = 22 ∨ (142 ≤ o ∧ p ≤ 6) → c' o p = c o p) (hm : ∀ o p, (o = 24 ∧ p = 54) ∨ o = 49 → m' o p = m o p) : PL n cd pb c' m' := by
  obtain ⟨q, g1, g2, g3, g4⟩ := h
  refine ⟨q, g1, by rw [hm 24 54 (by omega)]; exact g2, by rw [hc _ 2 (by omega)]; exact g3, ?_⟩
  intro i hi
  exact (g4 i hi).congr (fun p hp => hc _ p (by omega)) (fun p => hm 49 p (by omega))
theorem Sta.congr {n : Nat} {cd : Nat → Nat} {pb : Nat} {L : ML} {c m c' m' : MI} (h : Sta n cd pb L c m) (hc : ∀ o p, stc o p → c' o p = c o p) (hm : ∀ o p, stm o p → m' o p = m o p) : Sta n cd pb L c' m' := by
  obtain ⟨h1, h2, h3, h4, h5, h6, h7, h8⟩ := h
  refine ⟨h1, h2, ?_, ?_, ?_, ?_, ?_, ?_⟩
  · rw [hc 1 3 (by unfold stc; omega)]; exact h3
  · rw [hm 24 21 (by unfold stm; omega)]; exact h4
  · obtain ⟨t1, t2, t3, t4, t5, t6⟩ := h5
    refine ⟨?_, ?_, ?_, ?_, ?_, ?_⟩
    · intro j hj
      rw [hm 25 j (by unfold stm; omega)]; exact t1 j hj
    · intro j
      rw [hm 26 j (by unfold stm; omega)]; exact t2 j
    · intro j
      rw [hm 27 j (by unfold stm; omega)]; exact t3 j
    · intro j
      rw [hm 28 j (by unfold stm; omega)]; exact t4 j
    · intro j
      rw [hm 29 j (by unfold stm; omega)]; exact t5 j
    · intro j
      rw [hm 54 j (by unfold stm; omega)]; exact t6 j
  · exact h6.congr (fun o p q => hc o p (by unfold stc; omega)) (fun o p q => hm o p (by unfold stm; omega))
  · exact h7.congr h2 (fun o p q => hc o p (by unfold stc; omega)) (fun o p q => hm o p (by unfold stm; omega))
  · intro u hu
    obtain ⟨g1, g2, g3, g4, g5, g6, g7, g8, g9⟩ := h8 u hu
    have e : U u = 58 + 4 * u := rfl
    refine ⟨g1, ?_, ?_, ?_, ?_, ?_, ?_, ?_, ?_⟩
    · rw [hc _ 8 (by unfold stc; omega)]; exact g2
    · rw [hc _ 7 (by unfold stc; omega)]; exact g3
    · intro i hi
      rw [hc _ i (by unfold stc; omega)]; exact g4 i hi
    · rw [hm 37 _ (by unfold stm dynP; omega)]; exact g5
    · refine g6.congr ?_
      intro k q hk
      exact hm 37 _ (Or.inr (Or.inr (Or.inr (Or.inr (Or.inr (Or.inr ⟨rfl, by rw [show (65 * u + k) % 65 = k by omega]; exact hk⟩))))))
    · simp only [hm 36 _ (Or.inr (Or.inr (Or.inr (Or.inl rfl))))]; exact g7
    · intro i hi
      have : i < 3 := by unfold mny at hi; split at hi <;> (try split at hi) <;> omega
      rw [hc _ _ (by unfold stc; omega), hm 36 _ (by unfold stm; omega)]; exact g8 i hi
    · intro k hk
      rw [hm 35 _ (by unfold stm; omega)]; exact g9 k hk
