/-! T3: the whole book is read; how a text begins; what a text leaves of the craft -/
theorem CB.t {a b c : MI} (h : CB a b) (h2 : CB b c) : CB a c := fun o p z => (h2 o p z).trans (h o p z)
theorem LB.t {a b c : ML} (h : LB a b) (h2 : LB b c) : LB a c := fun o p z y => (h2 o p z y).trans (h o p z y)
theorem MB.t {a b c : MI} (h : MB a b) (h2 : MB b c) : MB a c := fun o p z => (h2 o p z).trans (h o p z)
section P31
variable {N n : Nat} {pb : Nat} {Lr : ML}
theorem book_loop (hN : 5000 ≤ N) : ∀ (d k zc zr : Nat) (c : MI) (L : ML) (m : MI), k + d = 20 → d < zc → d + 1 < zr → TM m → BK k c L m → (∃ j, RD n j c m) → OKF c m →
    ∃ c' L' m', CB c c' ∧ LB L L' ∧ MB m m' ∧ LF_X12_load_22 N zr 24 1 m Lr (GRf pb) = some m' ∧
      ((LF_X0_readFrom_7 N zc 6 4 (nI k) c L (GRf pb) = some (.inl (true, c', L')) ∧ OKF c' m' ∧ ∃ k', BK k' c' L' m') ∨
       (LF_X0_readFrom_7 N zc 6 4 (nI k) c L (GRf pb) = some (.inl (false, c', L')) ∧ FL c' m')) := by
  intro d
  induction d using Nat.strongRecOn with
  | ind d ih =>
    intro k zc zr c L m hd hzc hzr ht hb hR hO
    obtain ⟨zc, rfl⟩ : ∃ z, zc = z + 1 := ⟨zc - 1, by omega⟩
    obtain ⟨zr, rfl⟩ : ∃ z, zr = z + 2 := ⟨zr - 2, by omega⟩
    have le : ¬ (20 : Int32) < nI k := nI_nlt (a := 20) (b := k) (by omega) (by decide)
    have one : ((1 : Int32) = 0) = False := eq_false (by decide)
    have bt1 : b2i true = 1 := rfl
    obtain ⟨c1, L1, r, m', e1, e2, mb, h⟩ := unit_ok (N := N) (n := n) (pb := pb) (Lr := Lr) hN ht hb hR hO
    rcases h with ⟨rfl, h1, h2, h3, h4, h5⟩ | ⟨h1, c', L', h2, h3, h4⟩
    · refine ⟨c1, L1, m', h2, h3, mb, ?_, Or.inl ⟨?_, h5, k, h4⟩⟩
      · simp only [LF_X12_load_22, one, if_false, e2, b2e, wre, b2f, if_true]
      · simp only [LF_X0_readFrom_7, if_neg le, e1, b2e, h1, b1e, b2t, if_false]
    · rcases h4 with ⟨rfl, h4, h5⟩ | ⟨rfl, hk, h4, h5, h6, h7⟩
      · refine ⟨c', L', m', h2, h3, mb, ?_, Or.inr ⟨?_, h5⟩⟩
        · simp only [LF_X12_load_22, one, if_false, e2, b2e, wre, b2f, if_true]
        · simp only [LF_X0_readFrom_7, if_neg le, e1, b2e, h1, b1e, b2f, if_true, h4, b3e]
      · obtain ⟨c2, L2, m2, i1, i2, i3, i4, i5⟩ := ih (d - 1) (by omega) (k + 1) zc (zr + 1) c' L' m' (by omega) (by omega) (by omega) (ht.cg (fun o p z => mb o p (by omega))) h5 h6 h7
        have ec : LF_X0_readFrom_7 N (zc + 1) 6 4 (nI k) c L (GRf pb) = LF_X0_readFrom_7 N zc 6 4 (nI (k + 1)) c' L' (GRf pb) := by
          rw [LF_X0_readFrom_7]
          simp only [if_neg le, e1, b2e, h1, b1e, b2f, if_true, h4, b3e, b2t, if_false, wre, nI_1]
        refine ⟨c2, L2, m2, h2.t i1, h3.t i2, mb.t i3, ?_, ?_⟩
        · rw [← i4, LF_X12_load_22]
          simp only [one, if_false, e2, b2e, wre, bt1]
        · rw [ec]; exact i5
theorem book_ok {c m : MI} {L : ML} (hN : 5000 ≤ N) (ht : TM m) (hR : ∃ j, RD n j c m) (hO : OKF c m) :
    ∃ c' L' m', CB c c' ∧ LB L L' ∧ MB m m' ∧ LF_X12_load_22 N N 24 1 (uI m 24 17 0) Lr (GRf pb) = some m' ∧
      ((F_X0_readFrom N 6 4 c L (GRf pb) = some (true, c', L') ∧ OKF c' m' ∧ ∃ k', BK k' c' L' m') ∨
       (F_X0_readFrom N 6 4 c L (GRf pb) = some (false, c', L') ∧ FL c' m')) := by
  obtain ⟨j, hR⟩ := hR
  obtain ⟨c', L', m', h1, h2, h3, h4, h5⟩ := book_loop (N := N) (n := n) (pb := pb) (Lr := Lr) hN 20 0 N N (uI c 6 3 0) L (uI m 24 17 0) rfl (by omega) (by omega) (ht.cg (fun o p z => uI_at (by omega)))
    ⟨by omega, uI_same, uI_same, fun u hu => absurd hu (by omega), fun u v _ hv => absurd hv (by omega)⟩ ⟨j, hR.cg (fun p _ => uI_at (by omega)) (fun p => uI_at (by omega)) (fun p _ => uI_at (by omega)) (fun p => uI_at (by omega))⟩ (hO.cg (fun p _ => uI_at (by omega)) (fun p _ => uI_at (by omega)))
  refine ⟨c', L', m', fun o p z => ?_, h2, fun o p z => ?_, h4, ?_⟩
  · rw [h1 o p z, uI_at (by omega)]
  · rw [h3 o p z, uI_at (by omega)]
  · rcases h5 with ⟨h5, h6, h7⟩ | ⟨h5, h6⟩
    · have h5 : LF_X0_readFrom_7 N N 6 4 0 (uI c 6 3 0) L (GRf pb) = _ := h5
      exact Or.inl ⟨by simp only [F_X0_readFrom, ck_6, ck_4, if_true, wre, h5, bsl], h6, h7⟩
    · have h5 : LF_X0_readFrom_7 N N 6 4 0 (uI c 6 3 0) L (GRf pb) = _ := h5
      exact Or.inr ⟨by simp only [F_X0_readFrom, ck_6, ck_4, if_true, wre, h5, bsl], h6⟩
/-- a text of so many bytes begins, or there are not so many -/
theorem begins_ok {c m : MI} {L : ML} (hN : 5000 ≤ N) (h : RT c m) (x : Int32) :
    (((x < 0) ∨ (¬ x < 0 ∧ ¬ x ≤ c 4 1)) ∧ F_X12_begins N 24 x m Lr (GRf pb) = some (false, uI m 24 5 1)) ∨
    (∃ k c1 m1, ¬ x < 0 ∧ x ≤ c 4 1 ∧ F_X8_begin 4 x c L (GRf pb) = some c1 ∧ F_X12_begins N 24 x m Lr (GRf pb) = some (true, m1) ∧ RD k 0 c1 m1 ∧ OKF c1 m1 ∧
      (∀ o p, ¬ (o = 4 ∧ (p = 2 ∨ p = 3 ∨ p = 8 ∨ p = 9)) → c1 o p = c o p) ∧ (∀ o p, ¬ (o = 24 ∧ (p = 7 ∨ p = 9 ∨ p = 10 ∨ p = 15 ∨ p = 16)) → o ≠ 31 → m1 o p = m o p) ∧ m1 24 7 = 0) := by
  obtain ⟨q, h1, h2, h3, h4, h5, h6⟩ := h
  by_cases x0 : x < 0
  · refine Or.inl ⟨Or.inl x0, ?_⟩
    simp only [F_X12_begins, ck_24, if_true, if_pos x0, wre]
  · by_cases xq : x ≤ nI q
    · obtain ⟨k, hk, rfl⟩ := nI_of2 (M := nI q) (n := q) (nI_toInt (by omega)) x0 xq
      obtain ⟨m2, g1, g2, g3⟩ := loop1 (f := fun z i I => LF_X12_begins_21 N z 24 (nI k) (nI i) I Lr (GRf pb)) (R := fun i a => (∀ o p, o ≠ 31 → a o p = m o p) ∧ ∀ j, j < i → a 31 j = m 30 j) (Q := fun a => (∀ o p, o ≠ 31 → a o p = m o p) ∧ ∀ j, j < k → a 31 j = m 30 j) k (by
        intro z a ha
        exact ⟨a, by simp only [LF_X12_begins_21, if_pos (nI_le (Nat.le_refl k) (by omega))], ha⟩) (by
        intro z i a hi ha
        refine ⟨uI a 31 i (m 30 i), ?_, ?_, ?_⟩
        · simp only [LF_X12_begins_21, if_neg (nI_ge hi (by omega)), rf_24_8, rf_24_6, bse, ri_nI ln_30 (show i < 4000 by omega) (show 4000 < 2 ^ 31 by decide), ha.1 30 i (by decide), wi_nI ln_31 (show i < 4000 by omega) (show 4000 < 2 ^ 31 by decide), wre, nI_1]
        · intro o p z; rw [uI_at (fun q => z q.1)]; exact ha.1 o p z
        · intro j hj
          by_cases q : j = i
          · subst q; rw [uI_same]
          · rw [uI_at (by omega)]; exact ha.2 j (by omega)) k 0 N m (by omega) (by omega) ⟨fun _ _ _ => rfl, fun j hj => by omega⟩
      have g1 : LF_X12_begins_21 N N 24 (nI k) 0 m Lr (GRf pb) = some m2 := g1
      refine Or.inr ⟨k, uI (uI (uI (uI c 4 2 (nI k)) 4 3 0) 4 8 0) 4 9 (-1), uI (uI (uI (uI (uI m2 24 9 (nI k)) 24 7 0) 24 10 0) 24 15 0) 24 16 (-1), x0, by rw [h2]; exact xq, ?_, ?_, ⟨⟨by omega, ?_, ?_, fun j hj => ?_⟩, ?_, ?_, Nat.zero_le _⟩, ⟨?_, ?_, ?_⟩, fun o p z => ?_, fun o p z z2 => ?_, ?_⟩
      · simp only [F_X8_begin, ck_4, if_true, wre]
      · simp only [F_X12_begins, ck_24, if_true, if_neg x0, h3, if_pos xq, g1, b1e, wre]
      · rw [uI_at (by omega), uI_at (by omega), uI_at (by omega), uI_same]
      · rw [uI_at (by omega), uI_at (by omega), uI_at (by omega), uI_at (by omega), uI_same]
      · rw [uI_at (by omega), uI_at (by omega), uI_at (by omega), uI_at (by omega), uI_at (by omega), uI_at (by omega), uI_at (by omega), uI_at (by omega), uI_at (by omega), g3 j hj]
        exact h4 j (by omega)
      · rw [uI_at (by omega), uI_at (by omega), uI_same]; rfl
      · rw [uI_at (by omega), uI_at (by omega), uI_same]; rfl
      · rw [uI_at (by omega), uI_same]
      · rw [uI_at (by omega), uI_same]
      · rw [uI_same, uI_same]
      · rw [uI_at (by omega), uI_at (by omega), uI_at (by omega), uI_at (by omega)]
      · rw [uI_at (by omega), uI_at (by omega), uI_at (by omega), uI_at (by omega), uI_at (by omega)]; exact g2 o p z2
      · rw [uI_at (by omega), uI_at (by omega), uI_at (by omega), uI_same]
    · refine Or.inl ⟨Or.inr ⟨x0, by rw [h2]; exact xq⟩, ?_⟩
      simp only [F_X12_begins, ck_24, if_true, if_neg x0, h3, if_neg xq, wre]
end P31
section P32
variable {n : Nat} {cd : Nat → Nat} {pb : Nat} {L L' : ML} {t s0 B D : Nat} {c m c' m' : MI}
theorem RC.Lc (h : RC n cd pb L t s0 B D c m) (hL : ∀ u, u < n → L' (U u) 3 = L (U u) 3) : RC n cd pb L' t s0 B D c m := by
  obtain ⟨h1, ⟨g1, g2, g3, g4, g5, g6, g7, g8⟩, h3⟩ := h
  refine ⟨h1, ⟨g1, g2, g3, g4, g5, g6, g7, fun u hu => ?_⟩, h3⟩
  obtain ⟨a1, a2, a3, a4, a5, a6, a7, a8, a9⟩ := g8 u hu
  exact ⟨a1, a2, a3, a4, a5, a6, a7, a8, fun k hk => by rw [hL u hu]; exact a9 k hk⟩
/-- a text was read, and nothing else has changed -/
theorem RC.txt (h : RC n cd pb L t s0 B D c m) (hrt : RT c' m') (hc : ∀ o p, o ≠ 4 → o ≠ 5 → o ≠ 6 → o ≠ 7 → o ≠ 9 → c' o p = c o p) (hm : ∀ o p, ¬ (o = 24 ∧ p ≤ 17) → ¬ (30 ≤ o ∧ o ≤ 34) → m' o p = m o p) : RC n cd pb L t s0 B D c' m' :=
  ⟨h.1.out (fun o p q => hc o p (by omega) (by omega) (by omega) (by omega) (by omega)) (fun o p q => hm o p (by omega) (by omega)),
   h.2.1.feed hrt (fun o p q h4 h5 => hc o p h4 h5 (by unfold stc at q; omega) (by unfold stc at q; omega) (by unfold stc at q; omega)) (fun o p q h4 h5 => hm o p (by unfold stm at q; omega) (by unfold stm at q; omega)),
   h.2.2.congr (fun o p q => hc o p (by unfold dyc at q; omega) (by unfold dyc at q; omega) (by unfold dyc at q; omega) (by unfold dyc at q; omega) (by unfold dyc at q; omega)) (fun o p q => hm o p (by unfold dym at q; omega) (by unfold dym at q; omega)) h.n20⟩
end P32
