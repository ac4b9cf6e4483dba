/-! T3: the whole relation RC, and how a change keeps it -/
/-- the bytes that a recorder keeps: a ring on the class's side, a row on the reference's -/
def KP (u : Nat) (c m : MI) : Prop := ∃ h l r, h < 2000 ∧ l ≤ r ∧ r ≤ 2000 ∧ c (U u) 9 = nI h ∧ m 37 (65 * u + 10) = nI l ∧ m 37 (65 * u + 9) = nI r ∧ ∀ i, i < l → c (U u + 3) ((h + i) % 2000) = m 47 (2000 * u + i)
def DY (n : Nat) (cd : Nat → Nat) (t s0 B D : Nat) (c m : MI) : Prop :=
  m 24 34 = nI t ∧ t < 2 ^ 20 ∧ nn (m 24 35) 3 ∧ nn (m 24 43) D ∧ D < 2 ^ 30 ∧ B < 2 ^ 30 ∧
  (∃ b f, m 24 39 = nI b ∧ m 24 40 = nI f ∧ b + f ≤ B ∧ (s0 ≤ b + f ∨ s0 = 2 ^ 40) ∧ (m 24 50 = 0 ↔ b + f = s0)) ∧
  (∃ g d a, g ≤ 30 ∧ d ≤ 29 * (20 + g) ∧ a ≤ 6 * (20 + g) ∧ m 24 46 = nI g ∧ m 24 25 = nI d ∧ m 24 26 = nI a ∧ nn (m 24 28) (29 * (20 + g))) ∧
  (∀ u, u < n → cd u = 5 → KP u c m) ∧ ∀ u, u < n → (m 37 (65 * u + 63) = 0 ∨ m 37 (65 * u + 63) = 1)
def dyc (o p : Nat) : Prop := 58 ≤ o ∧ o < 142 ∧ ((o - 58) % 4 = 0 ∧ p = 9 ∨ (o - 58) % 4 = 3)
def dym (n : Nat) (cd : Nat → Nat) (o p : Nat) : Prop := (o = 24 ∧ (p = 34 ∨ p = 35 ∨ p = 43 ∨ p = 39 ∨ p = 40 ∨ p = 50 ∨ p = 46 ∨ p = 25 ∨ p = 26 ∨ p = 28)) ∨ o = 47 ∨ (o = 37 ∧ (p % 65 = 9 ∨ p % 65 = 63 ∨ p % 65 = 10 ∧ p / 65 < n ∧ cd (p / 65) = 5))
theorem KP.congr {u : Nat} {c m c' m' : MI} (h : KP u c m) (h1 : c' (U u) 9 = c (U u) 9) (h2 : ∀ p, c' (U u + 3) p = c (U u + 3) p) (h3 : m' 37 (65 * u + 10) = m 37 (65 * u + 10)) (h4 : m' 37 (65 * u + 9) = m 37 (65 * u + 9)) (h5 : ∀ i, i < 2000 → m' 47 (2000 * u + i) = m 47 (2000 * u + i)) : KP u c' m' := by
  obtain ⟨h, l, r, a1, a2, a3, a4, a5, a6, a7⟩ := h
  refine ⟨h, l, r, a1, a2, a3, by rw [h1]; exact a4, by rw [h3]; exact a5, by rw [h4]; exact a6, ?_⟩
  intro i hi
  rw [h2, h5 i (by omega)]
  exact a7 i hi
theorem DY.congr {n : Nat} {cd : Nat → Nat} {t s0 B D : Nat} {c m c' m' : MI} (h : DY n cd t s0 B D c m) (hc : ∀ o p, dyc o p → c' o p = c o p) (hm : ∀ o p, dym n cd o p → m' o p = m o p) (hn : n ≤ 20) : DY n cd t s0 B D c' m' := by
  unfold DY
  rw [hm 24 34 (by unfold dym; omega), hm 24 35 (by unfold dym; omega), hm 24 43 (by unfold dym; omega), hm 24 39 (by unfold dym; omega), hm 24 40 (by unfold dym; omega), hm 24 50 (by unfold dym; omega), hm 24 46 (by unfold dym; omega), hm 24 25 (by unfold dym; omega), hm 24 26 (by unfold dym; omega), hm 24 28 (by unfold dym; omega)]
  obtain ⟨a1, a2, a3, a4, a5, a6, a7, a8, a9, a10⟩ := h
  refine ⟨a1, a2, a3, a4, a5, a6, a7, a8, ?_, fun u hu => by rw [hm 37 _ (by unfold dym; omega)]; exact a10 u hu⟩
  intro u hu h5
  have e : U u = 58 + 4 * u := rfl
  refine (a9 u hu h5).congr (hc _ 9 (by unfold dyc; omega)) (fun p => hc _ p (by unfold dyc; omega)) (hm 37 _ (Or.inr (Or.inr ⟨rfl, Or.inr (Or.inr ⟨by omega, ?_, ?_⟩)⟩))) (hm 37 _ (by unfold dym; omega)) (fun i hi => hm 47 _ (by unfold dym; omega))
  · rw [show (65 * u + 10) / 65 = u by omega]; exact hu
  · rw [show (65 * u + 10) / 65 = u by omega]; exact h5
def RC (n : Nat) (cd : Nat → Nat) (pb : Nat) (L : ML) (t s0 B D : Nat) (c m : MI) : Prop := RQ (ob n cd) pb c m ∧ Sta n cd pb L c m ∧ DY n cd t s0 B D c m
section RCs
variable {n : Nat} {cd : Nat → Nat} {pb : Nat} {L : ML} {t s0 B D : Nat} {c m c' m' : MI}
theorem RC.of (h : RC n cd pb L t s0 B D c m) (hq : RQ (ob n cd) pb c' m') (hc : ∀ o p, stc o p ∨ dyc o p → c' o p = c o p) (hm : ∀ o p, stm o p ∨ dym n cd o p → m' o p = m o p) : RC n cd pb L t s0 B D c' m' :=
  ⟨hq, h.2.1.congr (fun o p q => hc o p (Or.inl q)) (fun o p q => hm o p (Or.inl q)), h.2.2.congr (fun o p q => hc o p (Or.inr q)) (fun o p q => hm o p (Or.inr q)) h.2.1.1⟩
theorem RC.n20 (h : RC n cd pb L t s0 B D c m) : n ≤ 20 := h.2.1.1
theorem RC.pb1 (h : RC n cd pb L t s0 B D c m) : pb ≤ 1 := h.2.1.2.1
theorem RC.nc (h : RC n cd pb L t s0 B D c m) : c 1 3 = nI n := h.2.1.2.2.1
theorem RC.nm (h : RC n cd pb L t s0 B D c m) : m 24 21 = nI n := h.2.1.2.2.2.1
theorem RC.tm (h : RC n cd pb L t s0 B D c m) : TM m := h.2.1.2.2.2.2.1
theorem RC.cm (h : RC n cd pb L t s0 B D c m) : CM m := h.tm.1
theorem RC.pl (h : RC n cd pb L t s0 B D c m) : PL n cd pb c m := h.2.1.2.2.2.2.2.2.1
theorem RC.un {u : Nat} (h : RC n cd pb L t s0 B D c m) (hu : u < n) : kin (cd u) ∧ c (U u) 8 = bitsI (cd u) ∧ c (U u) 7 = nI (chn (cd u)).length ∧ (∀ i, i < (chn (cd u)).length → c (U u + 2) i = nI ((chn (cd u)).getD i 0)) ∧ m 37 (65 * u) = nI (cd u) ∧
    SI n cd u (fun k => m 37 (65 * u + k)) ∧ FT n cd u (fun k => m 36 (3 * u + k)) ∧ (∀ i, i < mny (cd u) → c (U u) (4 + i) = m 36 (3 * u + i)) ∧ (∀ k, k < 8 → letL (L (U u) 3) k = m 35 (8 * u + k)) := h.2.1.2.2.2.2.2.2.2 u hu
theorem RC.cd29 {u : Nat} (h : RC n cd pb L t s0 B D c m) (hu : u < n) : cd u < 29 := (h.un hu).1.lt
theorem RC.si {u : Nat} (h : RC n cd pb L t s0 B D c m) (hu : u < n) : SI n cd u (fun k => m 37 (65 * u + k)) := (h.un hu).2.2.2.2.2.1
theorem RC.pt {u k : Nat} (h : RC n cd pb L t s0 B D c m) (hu : u < n) (hk : k < 65) (h1 : k ≠ 12) (h2 : k ≠ 46) (h3 : k ≠ 55) (h4 : k ≠ 22) : c (U u + 1) k = m 37 (65 * u + k) := by
  have := h.n20
  exact h.1 _ _ _ _ (Or.inl ⟨u, by omega, hk, ⟨hu, fun q => absurd q h1, fun q => absurd q h2, fun q => absurd q h3, fun q => absurd q h4⟩, by unfold U; omega, rfl, rfl⟩) (fun z => absurd z (by unfold U; omega))
theorem RC.sc {o p b : Nat} (h : RC n cd pb L t s0 B D c m) (hi : (o, p, b) ∈ scT) : c o p = m 24 b := h.1 _ _ _ _ (Or.inr (Or.inl ⟨rfl, hi⟩)) (fun z => by have e := (scT_in _ hi).1; simp only at e; omega)
theorem RC.ang {j : Nat} (h : RC n cd pb L t s0 B D c m) (hj : j < 3) : c 13 j = m 43 j := h.1 _ _ _ _ (Or.inr (Or.inr (Or.inl ⟨hj, rfl, Or.inl ⟨rfl, rfl⟩⟩))) (fun z => absurd z (by decide))
theorem RC.rat {j : Nat} (h : RC n cd pb L t s0 B D c m) (hj : j < 3) : c 14 j = m 44 j := h.1 _ _ _ _ (Or.inr (Or.inr (Or.inl ⟨hj, rfl, Or.inr (Or.inl ⟨rfl, rfl⟩)⟩))) (fun z => absurd z (by decide))
theorem RC.aim {j : Nat} (h : RC n cd pb L t s0 B D c m) (hj : j < 3) : c 15 j = m 45 j := h.1 _ _ _ _ (Or.inr (Or.inr (Or.inl ⟨hj, rfl, Or.inr (Or.inr ⟨rfl, rfl⟩)⟩))) (fun z => absurd z (by decide))
theorem RC.tick (h : RC n cd pb L t s0 B D c m) : m 24 34 = nI t := h.2.2.1
theorem RC.tlt (h : RC n cd pb L t s0 B D c m) : t < 2 ^ 20 := h.2.2.2.1
theorem RC.mode (h : RC n cd pb L t s0 B D c m) : nn (m 24 35) 3 := h.2.2.2.2.1
theorem RC.kp {u : Nat} (h : RC n cd pb L t s0 B D c m) (hu : u < n) (h5 : cd u = 5) : KP u c m := h.2.2.2.2.2.2.2.2.2.2.1 u hu h5
theorem RC.bk {u : Nat} (h : RC n cd pb L t s0 B D c m) (hu : u < n) : m 37 (65 * u + 63) = 0 ∨ m 37 (65 * u + 63) = 1 := h.2.2.2.2.2.2.2.2.2.2.2 u hu
-- what the two sides say of a unit
theorem RC.is {u l : Nat} (h : RC n cd pb L t s0 B D c m) (hu : u < n) (hl : l < 29) : F_X9_is (U u) (nI l) c L (GRf pb) = some (isL (cd u) l) := is_ok (by have := h.n20; omega) (h.cd29 hu) hl (h.un hu).2.1
theorem RC.p22 {u : Nat} (h : RC n cd pb L t s0 B D c m) (hu : u < n) (h6 : isL (cd u) 6 = true) : c (U u + 1) 22 = m 37 (65 * u + 22) := by
  have := h.n20
  exact h.1 _ _ _ _ (Or.inl ⟨u, by omega, by decide, ⟨hu, fun q => by omega, fun q => by omega, fun q => by omega, fun _ => h6⟩, by unfold U; omega, rfl, rfl⟩) (fun z => absurd z (by unfold U; omega))
theorem RC.on {u l : Nat} (h : RC n cd pb L t s0 B D c m) (hu : u < n) (hl : l < 29) (h6 : ∀ c, c < 29 → isL c l = true → isL c 6 = true) : F_X9_isOn (U u) (nI l) c L (GRf pb) = some (isL (cd u) l && decide (m 37 (65 * u + 22) = 1)) := by
  rw [isOnC_ok (by have := h.n20; omega) (h.cd29 hu) hl (h.un hu).2.1]
  cases e : isL (cd u) l with
  | false => rfl
  | true => rw [h.p22 hu (h6 _ (h.cd29 hu) e)]
theorem RC.wh {u l : Nat} (h : RC n cd pb L t s0 B D c m) (hu : u < n) (hl : l < 29) : F_X9_isWhole (U u) (nI l) c L (GRf pb) = some (isL (cd u) l && decide (m 37 (65 * u + 63) = 0)) := by
  rw [wholeC_ok (by have := h.n20; omega) (h.cd29 hu) hl (h.un hu).2.1, h.pt hu (by decide) (by decide) (by decide) (by decide) (by decide)]
theorem RC.isA {N u l : Nat} (h : RC n cd pb L t s0 B D c m) (hN : 6 ≤ N) (hu : u < n) (hl : l < 29) : F_X12_isA N 24 (nI u) (nI l) m L (GRf pb) = some (isL (cd u) l) := isA_ok hN h.cm (by have := h.n20; omega) (h.cd29 hu) hl (h.un hu).2.2.2.2.1
theorem RC.onM {N u : Nat} (h : RC n cd pb L t s0 B D c m) (hN : 6 ≤ N) (hu : u < n) : F_X12_isOn N 24 (nI u) m L (GRf pb) = some (isL (cd u) 6 && decide (m 37 (65 * u + 22) = 1)) := isOnM_ok hN h.cm (by have := h.n20; omega) (h.cd29 hu) (h.un hu).2.2.2.2.1
theorem RC.whM {u : Nat} (h : RC n cd pb L t s0 B D c m) (hu : u < n) : F_X12_isWhole 24 (nI u) m L (GRf pb) = some (decide (m 37 (65 * u + 63) = 0)) := wholeM_ok (by have := h.n20; omega)
theorem RC.at {u : Nat} (h : RC n cd pb L t s0 B D c m) (hu : u < n) : F_X10_unitAt 1 (nI u) c L (GRf pb) = some (U u) := unitAt_ok h.n20 hu h.nc
theorem RC.size (h : RC n cd pb L t s0 B D c m) : F_X10_size 1 c L (GRf pb) = some (nI n) := yardSize_ok h.nc
-- how a change keeps it
theorem RC.up {o p a b : Nat} {v w : Int32} (h : RC n cd pb L t s0 B D c m) (ht : Mt (ob n cd) pb o p a b) (hv : v = w) (hc : ¬ (stc o p ∨ dyc o p)) (hm : ¬ (stm a b ∨ dym n cd a b)) : RC n cd pb L t s0 B D (uI c o p v) (uI m a b w) :=
  h.of (h.1.up ht hv) (fun _ _ q => uI_at (fun e => hc (e.1 ▸ e.2 ▸ q))) (fun _ _ q => uI_at (fun e => hm (e.1 ▸ e.2 ▸ q)))
theorem RC.part {u k : Nat} {v w : Int32} (h : RC n cd pb L t s0 B D c m) (hu : u < n) (hk : dynP k) (h10 : k = 10 → cd u ≠ 5) (h22 : k = 22 → isL (cd u) 6 = true) (hv : v = w) (h63 : k ≠ 63 := by decide) : RC n cd pb L t s0 B D (uI c (U u + 1) k v) (uI m 37 (65 * u + k) w) := by
  have := h.n20
  have e : U u = 58 + 4 * u := rfl
  refine h.up (Or.inl ⟨u, by omega, by unfold dynP at hk; omega, ⟨hu, ?_, ?_, ?_, h22⟩, by omega, rfl, rfl⟩) hv (by unfold stc dyc; omega) ?_
  · intro q; unfold dynP at hk; omega
  · intro q; unfold dynP at hk; omega
  · intro q; unfold dynP at hk; omega
  · have hl : k < 65 := by unfold dynP at hk; omega
    have e1 : (65 * u + k) % 65 = k := by omega
    have e2 : (65 * u + k) / 65 = u := by omega
    unfold stm dym
    rw [e1, e2]
    rintro (q | q)
    · rcases q with q | q | q | q | q | q | ⟨-, q⟩ <;> first | omega | exact q hk
    · rcases q with q | q | ⟨-, q | q | ⟨q, -, q5⟩⟩
      · omega
      · omega
      · unfold dynP at hk; omega
      · exact h63 q
      · exact h10 q q5
theorem RC.broke {u : Nat} (h : RC n cd pb L t s0 B D c m) (hu : u < n) : RC n cd pb L t s0 B D (uI c (U u + 1) 63 1) (uI m 37 (65 * u + 63) 1) := by
  have hn := h.n20
  have e : U u = 58 + 4 * u := rfl
  refine ⟨h.1.up (Or.inl ⟨u, by omega, by decide, ⟨hu, fun q => by omega, fun q => by omega, fun q => by omega, fun q => by omega⟩, by omega, rfl, rfl⟩) rfl, h.2.1.congr (fun o p z => uI_at (by unfold stc at z; omega)) (fun o p z => uI_at ?_), ?_⟩
  · rintro ⟨rfl, rfl⟩
    unfold stm dynP at z
    omega
  · obtain ⟨a1, a2, a3, a4, a5, a6, a7, a8, a9, a10⟩ := h.2.2
    have f24 : ∀ p, uI m 37 (65 * u + 63) 1 24 p = m 24 p := fun p => uI_at (by omega)
    unfold DY
    simp only [f24]
    refine ⟨a1, a2, a3, a4, a5, a6, a7, a8, ?_, ?_⟩
    · intro v hv h5
      have e : U v = 58 + 4 * v := rfl
      exact (a9 v hv h5).congr (uI_at (by omega)) (fun p => uI_at (by omega)) (uI_at (by omega)) (uI_at (by omega)) (fun i hi => uI_at (by omega))
    · intro v hv
      by_cases q : v = u
      · subst q; rw [uI_same]; exact Or.inr rfl
      · rw [uI_at (by omega)]; exact a10 v hv
theorem RC.c22 {u : Nat} {v : Int32} (h : RC n cd pb L t s0 B D c m) (hu : u < n) (h6 : isL (cd u) 6 = false) : RC n cd pb L t s0 B D (uI c (U u + 1) 22 v) m := by
  have e : U u = 58 + 4 * u := rfl
  refine h.of ?_ (fun o p q => uI_at (by unfold stc dyc at q; omega)) (fun _ _ _ => rfl)
  intro o p a b ht hg
  rw [← h.1 o p a b ht hg]
  refine uI_at ?_
  rintro ⟨rfl, rfl⟩
  rcases ht with ⟨w, g1, g2, g3, g4, g5⟩ | ⟨g0, g⟩ | g | g | g | g
  · have : u = w := by omega
    subst this
    have := g3.2.2.2.2 rfl
    rw [h6] at this
    cases this
  · have e1 := (scT_in _ g).1
    simp only at e1
    omega
  · omega
  · omega
  · omega
  · have := h.n20
    omega
theorem RC.scal {o p b : Nat} {v w : Int32} (h : RC n cd pb L t s0 B D c m) (hi : (o, p, b) ∈ scT) (hb : b ≠ 34 ∧ b ≠ 35 ∧ b ≠ 43 ∧ b ≠ 39 ∧ b ≠ 40 ∧ b ≠ 46 ∧ b ≠ 25 ∧ b ≠ 26 ∧ b ≠ 28) (hv : v = w) : RC n cd pb L t s0 B D (uI c o p v) (uI m 24 b w) := by
  have e := (scT_in _ hi).1
  have e2 : ∀ x ∈ scT, 25 ≤ x.2.2 ∧ x.2.2 < 50 ∧ ¬ (x.1 = 1 ∧ x.2.1 = 3) := by decide
  have e3 := e2 _ hi
  simp only at e e3
  exact h.up (Or.inr (Or.inl ⟨rfl, hi⟩)) hv (by unfold stc dyc; omega) (by unfold stm dym; omega)
theorem RC.angU {j : Nat} {v w : Int32} (h : RC n cd pb L t s0 B D c m) (hj : j < 3) (hv : v = w) : RC n cd pb L t s0 B D (uI c 13 j v) (uI m 43 j w) :=
  h.up (Or.inr (Or.inr (Or.inl ⟨hj, rfl, Or.inl ⟨rfl, rfl⟩⟩))) hv (by unfold stc dyc; omega) (by unfold stm dym; omega)
theorem RC.ratU {j : Nat} {v w : Int32} (h : RC n cd pb L t s0 B D c m) (hj : j < 3) (hv : v = w) : RC n cd pb L t s0 B D (uI c 14 j v) (uI m 44 j w) :=
  h.up (Or.inr (Or.inr (Or.inl ⟨hj, rfl, Or.inr (Or.inl ⟨rfl, rfl⟩)⟩))) hv (by unfold stc dyc; omega) (by unfold stm dym; omega)
theorem RC.aimU {j : Nat} {v w : Int32} (h : RC n cd pb L t s0 B D c m) (hj : j < 3) (hv : v = w) : RC n cd pb L t s0 B D (uI c 15 j v) (uI m 45 j w) :=
  h.up (Or.inr (Or.inr (Or.inl ⟨hj, rfl, Or.inr (Or.inr ⟨rfl, rfl⟩)⟩))) hv (by unfold stc dyc; omega) (by unfold stm dym; omega)
theorem RC.itU {i k : Nat} {v w : Int32} (h : RC n cd pb L t s0 B D c m) (hi : i < 30) (hk : k < 4) (hv : v = w) : RC n cd pb L t s0 B D (uI c (142 + 31 * pb + i) (7 + k) v) (uI m (50 + k) i w) :=
  h.up (Or.inr (Or.inr (Or.inr (Or.inr (Or.inr ⟨hi, rfl, by omega, by omega, by omega⟩))))) hv (by unfold stc dyc; omega) (by unfold stm dym; omega)
/-- the reference's rows that nothing is compared with -/
theorem RC.mOut (h : RC n cd pb L t s0 B D c m) (hm : ∀ o p, o ≠ 41 → o ≠ 42 → o ≠ 55 → o ≠ 56 → m' o p = m o p) : RC n cd pb L t s0 B D c m' :=
  h.of (h.1.out (fun _ _ _ => rfl) (fun o p q => hm o p (by omega) (by omega) (by omega) (by omega))) (fun _ _ _ => rfl) (fun o p q => hm o p (by unfold stm dym at q; omega) (by unfold stm dym at q; omega) (by unfold stm dym at q; omega) (by unfold stm dym at q; omega))
/-- the class's rows that nothing is compared with: the frame and the heats -/
theorem RC.cOut (h : RC n cd pb L t s0 B D c m) (hc : ∀ o p, o ≠ 11 → o ≠ 17 → c' o p = c o p) : RC n cd pb L t s0 B D c' m :=
  h.of (h.1.out (fun o p q => hc o p (by omega) (by omega)) (fun _ _ _ => rfl)) (fun o p q => hc o p (by unfold stc dyc at q; omega) (by unfold stc dyc at q; omega)) (fun _ _ _ => rfl)
end RCs
