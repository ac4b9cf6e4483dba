/-! T3: a unit is made anew: both sides, and that the relation holds again -/
theorem P0_z {c k : Nat} (h0 : k ≠ 0) (h1 : k ≠ 62) (h2 : k ≠ 12) (h3 : k ≠ 46) (h4 : k ≠ 55) : P0 c k = 0 := by
  unfold P0
  rw [if_neg h0, if_neg h1, if_neg (fun z => h2 z.1), if_neg (fun z => h3 z.1), if_neg (fun z => h4 z.1)]
theorem S0_0 {c k : Nat} {m : MI} : S0 c m 0 k = P0 c k := by unfold S0; rw [if_pos rfl]
theorem S0_z {c k : Nat} {m : MI} (h0 : k ≠ 0) (h1 : k ≠ 62) (h2 : k ≠ 12) (h3 : k ≠ 46) (h4 : k ≠ 55) : S0 c m 0 k = 0 := S0_0.trans (P0_z h0 h1 h2 h3 h4)
theorem S0_1 {c j : Nat} {m : MI} (hj : j ≤ 3) : S0 c m 1 j = m 24 (25 + j) := by unfold S0; rw [if_neg (by decide), if_pos ⟨rfl, hj⟩]
theorem S0_n {c i j : Nat} {m : MI} (hj : j < 3) (hi : i < 100) : S0 c m (2 + j) i = m (38 + j) i := by
  unfold S0
  rw [if_neg (by omega), if_neg (by omega), if_pos (by omega), show 36 + (2 + j) = 38 + j by omega]
theorem nn0 {b : Nat} : nn 0 b := ⟨0, by omega, rfl⟩
theorem INV.start {cd : Nat → Nat} {u : Nat} {X : Nat → Int32} {Kd Ka Kn : Nat} {m : MI} (hd : nn (m 24 25) Kd) (ha : nn (m 24 26) Ka) (hn : nn (m 24 28) Kn) : INV cd u X 0 Kd Ka Kn (S0 (cd u) m) := by
  refine ⟨?_, ?_, ?_, ?_, ?_, ?_, ?_, ?_, ?_, ?_, ?_, ?_, ?_, ?_, ?_, ?_, ?_, ?_, ?_, ?_, ?_, ?_, ?_, ?_, ?_, ?_, ?_, ?_, ?_, ?_, ?_, ?_, ?_, ?_, ?_, ?_, ?_, ?_⟩
  · exact S0_0
  · exact fun q => absurd q (by omega)
  · exact fun q => by rw [S0_0]; unfold P0; rw [if_neg (by decide), if_neg (by decide), if_pos ⟨rfl, q⟩]
  · exact fun q => by rw [S0_0]; unfold P0; rw [if_neg (by decide), if_neg (by decide), if_neg (by omega), if_pos ⟨rfl, q⟩]
  · exact fun q => by rw [S0_0]; unfold P0; rw [if_neg (by decide), if_neg (by decide), if_neg (by omega), if_neg (by omega), if_pos ⟨rfl, q⟩]
  · rw [S0_1 (j := 0) (by decide)]; exact hd
  · exact fun _ => by rw [S0_1 (j := 1) (by decide)]; exact ha
  · rw [S0_1 (j := 1) (by decide)]; exact ha.mono (by omega)
  · rw [S0_1 (j := 3) (by decide)]; exact hn
  · rw [S0_z (k := 2) (by decide) (by decide) (by decide) (by decide) (by decide)]; exact nn0
  · rw [S0_z (k := 4) (by decide) (by decide) (by decide) (by decide) (by decide)]; exact nn0
  · rw [S0_z (k := 52) (by decide) (by decide) (by decide) (by decide) (by decide)]; exact nn0
  · rw [S0_z (k := 53) (by decide) (by decide) (by decide) (by decide) (by decide)]; exact nn0
  · rw [S0_z (k := 54) (by decide) (by decide) (by decide) (by decide) (by decide)]; exact nn0
  · rw [S0_z (k := 9) (by decide) (by decide) (by decide) (by decide) (by decide)]; exact nn0
  · rw [S0_z (k := 23) (by decide) (by decide) (by decide) (by decide) (by decide)]; exact nn0
  · rw [S0_z (k := 43) (by decide) (by decide) (by decide) (by decide) (by decide)]; exact nn0
  · rw [S0_z (k := 61) (by decide) (by decide) (by decide) (by decide) (by decide)]; exact nn0
  · rw [S0_z (k := 49) (by decide) (by decide) (by decide) (by decide) (by decide)]; exact nn0
  · rw [S0_z (k := 59) (by decide) (by decide) (by decide) (by decide) (by decide)]; exact nn0
  · rw [S0_z (k := 39) (by decide) (by decide) (by decide) (by decide) (by decide)]; exact nn0
  · rw [S0_z (k := 50) (by decide) (by decide) (by decide) (by decide) (by decide)]; exact nn0
  · rw [S0_z (k := 35) (by decide) (by decide) (by decide) (by decide) (by decide)]; exact nn0
  · rw [S0_z (k := 58) (by decide) (by decide) (by decide) (by decide) (by decide)]; exact nn0
  · exact fun _ => S0_z (k := 39) (by decide) (by decide) (by decide) (by decide) (by decide)
  · exact fun _ q => absurd q (by omega)
  · exact fun _ q => absurd q (by omega)
  · exact fun _ q => absurd q (by omega)
  · exact fun _ q => absurd q (by omega)
  · exact fun _ q => absurd q (by omega)
  · exact fun _ q => absurd q (by omega)
  · exact fun _ q => absurd q (by omega)
  · exact fun _ q => absurd q (by omega)
  · exact fun _ q => absurd q (by omega)
  · exact fun _ q => absurd q (by omega)
  · exact fun _ q => absurd q (by omega)
  · exact fun _ => ⟨S0_z (k := 9) (by decide) (by decide) (by decide) (by decide) (by decide), S0_z (k := 16) (by decide) (by decide) (by decide) (by decide) (by decide), S0_z (k := 18) (by decide) (by decide) (by decide) (by decide) (by decide), S0_z (k := 30) (by decide) (by decide) (by decide) (by decide) (by decide), S0_z (k := 39) (by decide) (by decide) (by decide) (by decide) (by decide), S0_z (k := 49) (by decide) (by decide) (by decide) (by decide) (by decide), S0_z (k := 54) (by decide) (by decide) (by decide) (by decide) (by decide), S0_z (k := 59) (by decide) (by decide) (by decide) (by decide) (by decide)⟩
  · rw [S0_z (k := 5) (by decide) (by decide) (by decide) (by decide) (by decide)]; exact nn0
theorem lay63 {u c l : Nat} {X : Nat → Int32} {S : MI} (hl : l < 29) : layN u c X l S 0 63 = S 0 63 := by
  rcases (show l = 0 ∨ l = 1 ∨ l = 2 ∨ l = 3 ∨ l = 4 ∨ l = 5 ∨ l = 6 ∨ l = 7 ∨ l = 8 ∨ l = 9 ∨ l = 10 ∨ l = 11 ∨ l = 12 ∨ l = 13 ∨ l = 14 ∨ l = 15 ∨ l = 16 ∨ l = 17 ∨ l = 18 ∨ l = 19 ∨ l = 20 ∨ l = 21 ∨ l = 22 ∨ l = 23 ∨ l = 24 ∨ l = 25 ∨ l = 26 ∨ l = 27 ∨ l = 28 by omega) with rfl | rfl | rfl | rfl | rfl | rfl | rfl | rfl | rfl | rfl | rfl | rfl | rfl | rfl | rfl | rfl | rfl | rfl | rfl | rfl | rfl | rfl | rfl | rfl | rfl | rfl | rfl | rfl | rfl
  · exact evo_0 (u := u) (c := c) (X := X) (S := S) (k := 63) (by decide) (by decide) (by decide) (by decide) (by decide) (by decide)
  · exact evo_1 (u := u) (c := c) (X := X) (S := S) (k := 63) (by decide) (by decide) (by decide) (by decide)
  · exact evo_2 (u := u) (c := c) (X := X) (S := S) (k := 63) (by decide) (by decide) (by decide)
  · exact evo_3 (u := u) (c := c) (X := X) (S := S) (k := 63) (by decide) (by decide) (by decide) (by decide) (by decide)
  · exact evo_4 (u := u) (c := c) (X := X) (S := S) (k := 63) (by decide) (by decide)
  · exact evo_5 (u := u) (c := c) (X := X) (S := S) (k := 63) (by decide) (by decide) (by decide) (by decide)
  · exact evo_6 (u := u) (c := c) (X := X) (S := S) (k := 63) (by decide) (by decide) (by decide) (by decide)
  · exact evo_7 (u := u) (c := c) (X := X) (S := S) (k := 63) (by decide)
  · exact evo_8 (u := u) (c := c) (X := X) (S := S) (k := 63) (by decide) (by decide) (by decide)
  · exact evo_9 (u := u) (c := c) (X := X) (S := S) (k := 63) (by decide) (by decide) (by decide) (by decide)
  · exact evo_10 (u := u) (c := c) (X := X) (S := S) (k := 63) (by decide) (by decide) (by decide) (by decide)
  · exact evo_11 (u := u) (c := c) (X := X) (S := S) (k := 63) (by decide) (by decide) (by decide) (by decide)
  · exact evo_12 (u := u) (c := c) (X := X) (S := S) (k := 63) (by decide)
  · exact evo_13 (u := u) (c := c) (X := X) (S := S) (k := 63) (by decide) (by decide)
  · exact evo_14 (u := u) (c := c) (X := X) (S := S) (k := 63) (by decide) (by decide) (by decide)
  · exact evo_15 (u := u) (c := c) (X := X) (S := S) (k := 63) (by decide) (by decide) (by decide)
  · exact evo_16 (u := u) (c := c) (X := X) (S := S) (k := 63) (by decide) (by decide)
  · exact evo_17 (u := u) (c := c) (X := X) (S := S) (k := 63) (by decide) (by decide)
  · exact evo_18 (u := u) (c := c) (X := X) (S := S) (k := 63) (by decide) (by decide) (by decide)
  · exact evo_19 (u := u) (c := c) (X := X) (S := S) (k := 63) (by decide) (by decide)
  · exact evo_20 (u := u) (c := c) (X := X) (S := S) (k := 63) (by decide) (by decide) (by decide)
  · exact evo_21 (u := u) (c := c) (X := X) (S := S) (k := 63) (by decide) (by decide)
  · exact evo_22 (u := u) (c := c) (X := X) (S := S) (k := 63) (by decide) (by decide)
  · exact evo_23 (u := u) (c := c) (X := X) (S := S) (k := 63) (by decide) (by decide)
  · exact evo_24 (u := u) (c := c) (X := X) (S := S) (k := 63) (by decide)
  · exact evo_25 (u := u) (c := c) (X := X) (S := S) (k := 63) (by decide) (by decide)
  · exact evo_26 (u := u) (c := c) (X := X) (S := S) (k := 63) (by decide) (by decide) (by decide)
  · exact evo_27 (u := u) (c := c) (X := X) (S := S) (k := 63) (by decide)
  · exact evo_28 (u := u) (c := c) (X := X) (S := S) (k := 63) (by decide)
theorem fold63 {u c : Nat} {X : Nat → Int32} : ∀ (ls : List Nat) (S : MI), (∀ l ∈ ls, l < 29) → (ls.foldl (fun S l => layN u c X l S) S) 0 63 = S 0 63 := by
  intro ls
  induction ls with
  | nil => intro S _; rfl
  | cons l ls ih =>
    intro S h
    rw [List.foldl_cons, ih _ (fun x hx => h x (List.mem_cons_of_mem _ hx)), lay63 (h l List.mem_cons_self)]
theorem ev_5_10 {u c : Nat} {X : Nat → Int32} {S : MI} : lay_5 u c X S 0 10 = 0 := by
  simp (decide := true) only [lay_5, wre, jot0, uI_same, rr0, rr1, rrk, rrj, ne_eq]
theorem fold5 {u : Nat} {X : Nat → Int32} {S : MI} : ((chn 5).foldl (fun S l => layN u 5 X l S) S) 0 10 = 0 := by
  rw [show chn 5 = [0, 1, 5] by decide]
  exact ev_5_10 (u := u) (c := 5) (X := X)
theorem chn_lt : ∀ c, c < 29 → ∀ l ∈ chn c, l < 29 := fun c hc l hl => (chn_fact c hc l hl).1
theorem INV.si {n : Nat} {cd : Nat → Nat} {u : Nat} {X : Nat → Int32} {lo Kd Ka Kn : Nat} {S : MI} (h : INV cd u X lo Kd Ka Kn S) (hlo : ∀ t, t < 29 → isL (cd u) t = true → t < lo) (ft : FT n cd u X) : SI n cd u (S 0) := by
  have is : ∀ t, t < 29 → isL t t = true := by decide
  have hq : ∀ t, t < 29 → cd u = t → t < lo := fun t ht q => hlo t ht (by rw [q]; exact is t ht)
  refine ⟨h.2.2.2.2.2.2.2.2.2.2.2.2.2.2.1, h.2.2.2.2.2.2.2.2.2.2.2.2.2.2.2.1, h.2.2.2.2.2.2.2.2.2.2.2.2.2.2.2.2.1, h.2.2.2.2.2.2.2.2.2.2.2.2.2.2.2.2.2.1, h.2.2.2.2.2.2.2.2.2.2.2.2.2.2.2.2.2.2.1, h.2.2.2.2.2.2.2.2.2.2.2.2.2.2.2.2.2.2.2.1, h.2.2.2.2.2.2.2.2.2.2.2.2.2.2.2.2.2.2.2.2.1, h.2.2.2.2.2.2.2.2.2.2.2.2.2.2.2.2.2.2.2.2.2.1, ⟨h.2.2.2.2.2.2.2.2.2.2.2.2.2.2.2.2.2.2.2.2.2.2.1, h.2.2.2.2.2.2.2.2.2.2.1, h.2.2.2.2.2.2.2.2.2.2.2.2.2.2.2.2.2.2.2.2.2.2.2.2.2.2.2.2.2.2.2.2.2.2.2.2.2⟩, ?_, ?_, ?_, ?_, ?_, ?_⟩
  · rintro (q | q)
    · exact h.2.2.2.2.2.2.2.2.2.2.2.2.2.2.2.2.2.2.2.2.2.2.2.2.2.2.1 q (hlo 9 (by decide) q)
    · exact h.2.2.2.2.2.2.2.2.2.2.2.2.2.2.2.2.2.2.2.2.2.2.2.2.2.2.2.1 q (hq 21 (by decide) q)
  · intro q; exact h.2.2.2.2.2.2.2.2.2.2.2.2.2.2.2.2.2.2.2.2.2.2.2.2.2.2.2.2.2.1 q (hq 19 (by decide) q)
  · rintro (q | q)
    · rw [h.2.2.2.2.2.2.2.2.2.2.2.2.2.2.2.2.2.2.2.2.2.2.2.2.2.2.2.2.2.2.1 q (hq 8 (by decide) q)]; exact ft.2.2.2.2.2.2.2.2.1 q
    · rw [h.2.2.2.2.2.2.2.2.2.2.2.2.2.2.2.2.2.2.2.2.2.2.2.2.2.2.2.2.2.2.2.1 q (hq 13 (by decide) q)]; exact ft.2.2.2.2.2.2.2.2.2.2.2.1 q
  · intro q; rw [h.2.2.2.2.2.2.2.2.2.2.2.2.2.2.2.2.2.2.2.2.2.2.2.2.2.2.2.2.2.2.2.2.1 q (hq 14 (by decide) q)]; exact ft.2.2.2.2.2.2.2.2.2.2.2.2.1 q
  · rintro (q | q)
    · rw [h.2.2.2.2.2.2.2.2.2.2.2.2.2.2.2.2.2.2.2.2.2.2.2.2.2.2.2.2.2.2.2.2.2.1 q (hlo 18 (by decide) q)]; exact ft.2.2.2.2.2.2.2.2.2.2.2.2.2.2.1 q
    · rw [h.2.2.2.2.2.2.2.2.2.2.2.2.2.2.2.2.2.2.2.2.2.2.2.2.2.2.2.2.2.2.2.2.2.2.1 q (hq 25 (by decide) q)]; exact ft.2.2.2.2.1 q
  · intro q
    obtain ⟨e1, e2⟩ := h.2.2.2.2.2.2.2.2.2.2.2.2.2.2.2.2.2.2.2.2.2.2.2.2.2.2.2.2.2.2.2.2.2.2.2.1 q (hlo 26 (by decide) q)
    rw [e1, e2]; exact ft.2.2.2.2.2.1 q
section P13
variable {N n u : Nat} {cd : Nat → Nat} {pb : Nat} {L : ML} {t s0 B D : Nat} {c m : MI}
theorem make_ok {Kd Ka Kn : Nat} (hN : 5000 ≤ N) (hn : n ≤ 20) (hu : u < 20) (hc : cd u < 29) (hkn : kin (cd u)) (ft : FT n cd u (fun k => m 36 (3 * u + k))) (hM : CM m) (hKd : Kd + 31 ≤ 1500) (hKa : Ka ≤ 900) (hKn : Kn + 31 < 2 ^ 20) (h7 : c (U u) 7 = nI (chn (cd u)).length) (hl : ∀ i, i < (chn (cd u)).length → c (U u + 2) i = nI ((chn (cd u)).getD i 0)) (hXc : ∀ i, i < mny (cd u) → c (U u) (4 + i) = m 36 (3 * u + i)) (h0 : c (U u + 1) 0 = nI (cd u)) (hs : ∀ j, j ≤ 3 → c 1 (4 + j) = m 24 (25 + j)) (hnt : ∀ i j, i < 100 → j < 3 → c 3 (3 * i + j) = m (38 + j) i) (hd : nn (m 24 25) Kd) (ha : nn (m 24 26) Ka) (hno : nn (m 24 28) Kn) :
    ∃ S x y, F_X10_make N 1 (U u) (nI u) c L (GRf pb) = some (cS u S (uI c (U u) 9 0)) ∧ F_X12_make N 24 (nI u) (nI (cd u)) m L (GRf pb) = some (mS u (uI S 0 64 ((ansV 3 (cd u) (S 0) - S 0 6) &&& 1)) m x y) ∧ INV cd u (fun k => m 36 (3 * u + k)) (loC (cd u) (chn (cd u)).length) Kd Ka Kn S ∧ S 0 63 = 0 ∧ (cd u = 5 → S 0 10 = 0) := by
  have e : U u = 58 + 4 * u := rfl
  have hu' : u ≤ 20 := by omega
  have cl := clear_ok (N := N) (pb := pb) (L := L) (S := S0 (cd u) m) (cc := cd u) hN hu' h0 (fun k _ => S0_0) (fun j hj => by rw [S0_1 hj]; exact hs j hj) (fun i j hi hj => by rw [S0_n hj hi]; exact hnt i j hi hj)
  obtain ⟨x, y, hy, pre⟩ := presets (N := N) (pb := pb) (L := L) hN hu hM hc
  obtain ⟨x2, e1, e2, inv⟩ := mk_all (c0 := uI c (U u) 9 0) (m0 := m) (pb := pb) (L := L) (y := y) (X := fun k => m 36 (3 * u + k)) hN hn hu hc hkn ft hM hKd hKa hKn (by rw [uI_at (by omega)]; exact h7) (fun i hi => by rw [uI_at (by omega)]; exact hl i hi) (fun i hi => by
    have hm : mny (cd u) ≤ 3 := by unfold mny; split <;> (try split) <;> omega
    rw [uI_at (by omega)]; exact hXc i hi) (fun j _ => rfl) hy (chn (cd u)).length 0 N N (S0 (cd u) m) x (by omega) (by have := chn_len (cd u) hc; omega) (by have := chn_len (cd u) hc; omega) (INV.start hd ha hno)
  rw [List.drop_zero] at e1 e2 inv
  have e63 : ((chn (cd u)).foldl (fun S l => layN u (cd u) (fun k => m 36 (3 * u + k)) l S) (S0 (cd u) m)) 0 63 = 0 := by
    rw [fold63 _ _ (chn_lt _ hc)]; exact S0_z (k := 63) (by decide) (by decide) (by decide) (by decide) (by decide)
  have e10 : cd u = 5 → ((chn (cd u)).foldl (fun S l => layN u (cd u) (fun k => m 36 (3 * u + k)) l S) (S0 (cd u) m)) 0 10 = 0 := fun q => by rw [q]; exact fold5
  generalize (chn (cd u)).foldl (fun S l => layN u (cd u) (fun k => m 36 (3 * u + k)) l S) (S0 (cd u) m) = S at *
  have e1 : LF_X10_make_7 N N 1 (U u) 0 (cS u (S0 (cd u) m) (uI c (U u) 9 0)) L (GRf pb) = _ := e1
  have e2 : LF_X12_make_122 N N 24 (nI u) (nI (chn (cd u)).length) 0 (mS u (S0 (cd u) m) m x y) L (GRf pb) = _ := e2
  have an := mans_3 (N := N) (pb := pb) (L := L) (x := x2) (y := y) (m0 := m) hN hu hM hc inv.an
  refine ⟨S, ax N u 3 pb S m x2 y L, y, ?_, ?_, inv, e63, e10⟩
  · simp only [F_X10_make, ck_1, ck_U hu', if_true, cl, b1e, e1]
  · rw [F_X12_make, if_pos (of_eq_true ck_24)]
    refine (pre (fun v31 z40 => bn1 (LF_X12_make_122 N N 24 (nI u) v31 (0 : Int32) z40 L (GRf pb)) fun z48 =>
      bn2 (F_X12_answer N 24 (nI u) (3 : Int32) z48 L (GRf pb)) fun v50 I51 =>
      bn1 (F_X12_get 24 (nI u) (6 : Int32) I51 L (GRf pb)) fun v53 =>
      bn1 (F_X12_set 24 (nI u) (64 : Int32) ((v50 - v53) &&& (1 : Int32)) I51 L (GRf pb)) fun I55 =>
      some (I55))).trans ?_
    rw [e2, b1e, an, b2e, mgt_6 hu, b1e, mst_64 hu, b1e]
theorem scT_y : ∀ x ∈ scT, (x.1 = 1 → 4 ≤ x.2.1 ∧ x.2.1 ≤ 8 ∧ (x.2.1 ≤ 7 → x.2.2 = 21 + x.2.1) ∧ (x.2.1 = 8 → x.2.2 = 46)) ∧ (x.1 ≠ 1 → 29 ≤ x.2.2 ∧ x.2.2 ≠ 46) := by decide
/-- the relation holds again when unit u has been made anew -/
theorem RC.made {S : MI} {x y : Nat → Int32} {g' : Int32} {g d a : Nat} (h : RC n cd pb L t s0 B D c m) (hu : u < n) (hsi : SI n cd u (S 0)) (s0' : S 0 0 = nI (cd u)) (hp : HP u (cd u) S) (s63 : S 0 63 = 0) (s10 : cd u = 5 → S 0 10 = 0) (hg : g ≤ 30) (eg : g' = nI g) (hd : S 1 0 = nI d) (hd2 : d ≤ 29 * (20 + g)) (ha : S 1 1 = nI a) (ha2 : a ≤ 6 * (20 + g)) (hno : nn (S 1 3) (29 * (20 + g))) :
    RC n cd pb L t s0 B D (cS u S (uI (uI c 1 8 g') (U u) 9 0)) (mS u S (uI m 24 46 g') x y) := by
  have hn := h.n20
  have hpb := h.pb1
  have e : U u = 58 + 4 * u := rfl
  have co : ∀ o p, ¬ (o = U u + 1 ∧ p < 65) → ¬ (o = 1 ∧ 4 ≤ p ∧ p ≤ 8) → ¬ (o = 3 ∧ p < 300) → ¬ (o = U u ∧ p = 9) → cS u S (uI (uI c 1 8 g') (U u) 9 0) o p = c o p := fun o p z1 z2 z3 z4 => by
    rw [cS_o z1 (by omega) z3, uI_at z4, uI_at (by omega)]
  have mo : ∀ o p, ¬ (o = 37 ∧ 65 * u ≤ p ∧ p < 65 * u + 65) → ¬ (o = 24 ∧ 25 ≤ p ∧ p ≤ 28) → ¬ (o = 24 ∧ p = 46) → ¬ (38 ≤ o ∧ o ≤ 40 ∧ p < 100) → o ≠ 41 → o ≠ 42 → mS u S (uI m 24 46 g') x y o p = m o p := fun o p z1 z2 z3 z4 z5 z6 => by
    rw [mS_o z1 z2 z4 z5 z6, uI_at z3]
  have mu : ∀ k, k < 65 → mS u S (uI m 24 46 g') x y 37 (65 * u + k) = S 0 k := fun k hk => mS_r hk
  refine ⟨?_, ?_, ?_⟩
  · intro o p a b ht hg
    have old := h.1 o p a b ht (fun z => by have y := hg z; rw [mo 24 54 (by omega) (by omega) (by omega) (by omega) (by omega) (by omega)] at y; exact y)
    rcases ht with ⟨v, g1, g2, g3, g4, g5, g6⟩ | ⟨g0, g⟩ | g | g | g | g
    · by_cases q : v = u
      · subst q
        rw [g4, g5, g6, show 59 + 4 * v = U v + 1 by omega, mu p g2]
        unfold cS ovl
        rw [if_pos ⟨rfl, g2⟩]
        by_cases z1 : p = 1
        · rw [if_pos z1, z1]; exact hp.1.symm
        rw [if_neg z1]
        by_cases z2 : p = 12
        · rw [if_pos z2, z2]; exact (hp.2.1 (g3.2.1 z2)).symm
        rw [if_neg z2]
        by_cases z3 : p = 46
        · rw [if_pos z3, z3]; exact (hp.2.2.1 (g3.2.2.1 z3)).symm
        rw [if_neg z3]
        by_cases z4 : p = 55
        · rw [if_pos z4, z4]; exact (hp.2.2.2 (g3.2.2.2.1 z4)).symm
        rw [if_neg z4]
      · rw [co o p (by omega) (by omega) (by omega) (by omega), mo a b (by omega) (by omega) (by omega) (by omega) (by omega) (by omega)]
        exact old
    · obtain ⟨y1, y2⟩ := scT_y _ g
      have y3 := (scT_in _ g).1
      simp only at y1 y2 y3
      by_cases q : o = 1
      · obtain ⟨w1, w2, w3, w4⟩ := y1 q
        by_cases q8 : p = 8
        · subst q q8 g0
          rw [w4 rfl, cS_o (by omega) (by omega) (by omega), uI_at (by omega), uI_same, mS_o (by omega) (by omega) (by omega) (by omega) (by omega), uI_same]
        · subst q g0
          have w5 := w3 (by omega)
          obtain ⟨j, rfl⟩ : ∃ j, p = 4 + j := ⟨p - 4, by omega⟩
          rw [w5, show 21 + (4 + j) = 25 + j by omega, cS_c (by omega), mS_c (by omega)]
      · obtain ⟨w1, w2⟩ := y2 q
        rw [co o p (by omega) (by omega) (by omega) (by omega), mo a b (by omega) (by omega) (by omega) (by omega) (by omega) (by omega)]
        exact old
    · rw [co o p (by omega) (by omega) (by omega) (by omega), mo a b (by omega) (by omega) (by omega) (by omega) (by omega) (by omega)]
      exact old
    · obtain ⟨g1, g2, g3, g4, g5⟩ := g
      subst g1
      unfold cS mS
      rw [if_neg (by omega), if_neg (by omega), if_pos (by omega), if_neg (by omega), if_neg (by omega), if_neg (by omega), if_neg (by omega), if_pos (by omega), show 2 + p % 3 = a - 36 by omega, show p / 3 = b by omega]
    · rw [co o p (by omega) (by omega) (by omega) (by omega), mo a b (by omega) (by omega) (by omega) (by omega) (by omega) (by omega)]
      exact old
    · rw [co o p (by omega) (by omega) (by omega) (by omega), mo a b (by omega) (by omega) (by omega) (by omega) (by omega) (by omega)]
      exact old
  · obtain ⟨h1, h2, h3, h4, h5, h6, h7, h8⟩ := h.2.1
    refine ⟨h1, h2, ?_, ?_, ?_, ?_, ?_, ?_⟩
    · rw [co 1 3 (by omega) (by omega) (by omega) (by omega)]; exact h3
    · rw [mo 24 21 (by omega) (by omega) (by omega) (by omega) (by omega) (by omega)]; exact h4
    · obtain ⟨t1, t2, t3, t4, t5, t6⟩ := h5
      refine ⟨fun j hj => ?_, fun j => ?_, fun j => ?_, fun j => ?_, fun j => ?_, fun j => ?_⟩
      · rw [mo 25 j (by omega) (by omega) (by omega) (by omega) (by omega) (by omega)]; exact t1 j hj
      · rw [mo 26 j (by omega) (by omega) (by omega) (by omega) (by omega) (by omega)]; exact t2 j
      · rw [mo 27 j (by omega) (by omega) (by omega) (by omega) (by omega) (by omega)]; exact t3 j
      · rw [mo 28 j (by omega) (by omega) (by omega) (by omega) (by omega) (by omega)]; exact t4 j
      · rw [mo 29 j (by omega) (by omega) (by omega) (by omega) (by omega) (by omega)]; exact t5 j
      · rw [mo 54 j (by omega) (by omega) (by omega) (by omega) (by omega) (by omega)]; exact t6 j
    · exact h6.congr (fun o p q => co o p (by omega) (by omega) (by omega) (by omega)) (fun o p q => mo o p (by omega) (by omega) (by omega) (by omega) (by omega) (by omega))
    · exact h7.congr h2 (fun o p q => co o p (by omega) (by omega) (by omega) (by omega)) (fun o p q => mo o p (by omega) (by omega) (by omega) (by omega) (by omega) (by omega))
    · intro v hv
      obtain ⟨g1, g2, g3, g4, g5, g6, g7, g8, g9⟩ := h8 v hv
      have ev : U v = 58 + 4 * v := rfl
      have hl := chn_len (cd v) g1.lt
      refine ⟨g1, ?_, ?_, ?_, ?_, ?_, ?_, ?_, ?_⟩
      · rw [co _ 8 (by omega) (by omega) (by omega) (by omega)]; exact g2
      · rw [co _ 7 (by omega) (by omega) (by omega) (by omega)]; exact g3
      · intro i hi
        rw [co _ i (by omega) (by omega) (by omega) (by omega)]; exact g4 i hi
      · by_cases q : v = u
        · subst q; exact (mu 0 (by decide)).trans s0'
        · rw [mo 37 _ (by omega) (by omega) (by omega) (by omega) (by omega) (by omega)]; exact g5
      · by_cases q : v = u
        · subst q
          unfold SI
          simp only [mu 9 (by decide), mu 23 (by decide), mu 43 (by decide), mu 61 (by decide), mu 49 (by decide), mu 59 (by decide), mu 39 (by decide), mu 50 (by decide), mu 35 (by decide), mu 4 (by decide), mu 5 (by decide), mu 31 (by decide), mu 48 (by decide), mu 27 (by decide), mu 60 (by decide)]
          exact hsi
        · refine g6.congr (fun k hk _ => mo 37 _ (by omega) (by omega) (by omega) (by omega) (by omega) (by omega))
      · have m36 : ∀ p, mS u S (uI m 24 46 g') x y 36 p = m 36 p := fun p => mo 36 p (by omega) (by omega) (by omega) (by omega) (by omega) (by omega)
        simp only [m36]; exact g7
      · intro i hi
        have : i < 3 := by unfold mny at hi; split at hi <;> (try split at hi) <;> omega
        rw [co _ _ (by omega) (by omega) (by omega) (by omega), mo 36 _ (by omega) (by omega) (by omega) (by omega) (by omega) (by omega)]; exact g8 i hi
      · intro k hk
        rw [mo 35 _ (by omega) (by omega) (by omega) (by omega) (by omega) (by omega)]; exact g9 k hk
  · obtain ⟨a1, a2, a3, a4, a5, a6, ⟨xx, yy, b1, b2, b3, b4, b5⟩, -, a9, a10⟩ := h.2.2
    refine ⟨by rw [mo _ _ (by omega) (by omega) (by omega) (by omega) (by omega) (by omega)]; exact a1, a2, by rw [mo _ _ (by omega) (by omega) (by omega) (by omega) (by omega) (by omega)]; exact a3, by rw [mo _ _ (by omega) (by omega) (by omega) (by omega) (by omega) (by omega)]; exact a4, a5, a6, ⟨xx, yy, by rw [mo _ _ (by omega) (by omega) (by omega) (by omega) (by omega) (by omega)]; exact b1, by rw [mo _ _ (by omega) (by omega) (by omega) (by omega) (by omega) (by omega)]; exact b2, b3, b4, by rw [mo _ _ (by omega) (by omega) (by omega) (by omega) (by omega) (by omega)]; exact b5⟩, ⟨g, d, a, hg, hd2, ha2, ?_, ?_, ?_, ?_⟩, ?_, ?_⟩
    · rw [mS_o (by omega) (by omega) (by omega) (by omega) (by omega), uI_same]; exact eg
    · exact (mS_c (j := 0) (by decide)).trans hd
    · exact (mS_c (j := 1) (by decide)).trans ha
    · have : mS u S (uI m 24 46 g') x y 24 28 = S 1 3 := mS_c (j := 3) (by decide)
      rw [this]; exact hno
    · intro v hv h5
      have ev : U v = 58 + 4 * v := rfl
      by_cases q : v = u
      · subst q
        obtain ⟨r, r1, r2⟩ := hsi.1
        refine ⟨0, 0, r, by decide, by omega, r1, ?_, ?_, ?_, fun i hi => by omega⟩
        · rw [cS_o (by omega) (by omega) (by omega), uI_same]; rfl
        · rw [mu 10 (by decide), s10 h5]; rfl
        · rw [mu 9 (by decide)]; exact r2
      · exact (a9 v hv h5).congr (co _ _ (by omega) (by omega) (by omega) (by omega)) (fun p => co _ _ (by omega) (by omega) (by omega) (by omega)) (mo _ _ (by omega) (by omega) (by omega) (by omega) (by omega) (by omega)) (mo _ _ (by omega) (by omega) (by omega) (by omega) (by omega) (by omega)) (fun i hi => mo _ _ (by omega) (by omega) (by omega) (by omega) (by omega) (by omega))
    · intro v hv
      by_cases q : v = u
      · subst q; rw [mu 63 (by decide)]; exact Or.inl s63
      · rw [mo _ _ (by omega) (by omega) (by omega) (by omega) (by omega) (by omega)]; exact a10 v hv
theorem restart_ok (hN : 5000 ≤ N) (h : RC n cd pb L t s0 B D c m) (hu : u < n) : (m 24 46 = nI 30 ∧ F_X10_restart N 1 (nI u) c L (GRf pb) = some (false, c)) ∨ (∃ g, g < 30 ∧ m 24 46 = nI g ∧ ∃ c' m', F_X10_restart N 1 (nI u) c L (GRf pb) = some (true, c') ∧ F_X12_make N 24 (nI u) (nI (cd u)) (uI m 24 46 (nI (g + 1))) L (GRf pb) = some m' ∧ RC n cd pb L t s0 B D c' m' ∧ (∀ p, m' 51 p = m 51 p) ∧ m' 24 54 = m 24 54) := by
  have hn := h.n20
  have hu20 := h.lt20 hu
  have hu' : u ≤ 20 := by omega
  have e : U u = 58 + 4 * u := rfl
  obtain ⟨g, d, a, hg, hd, ha, eg, ed, ea, eno⟩ := h.2.2.2.2.2.2.2.2.2.1
  have s8 : c 1 8 = m 24 46 := h.sc (o := 1) (p := 8) (b := 46) (by decide)
  by_cases q : g = 30
  · subst q
    refine Or.inl ⟨eg, ?_⟩
    simp only [F_X10_restart, ck_1, if_true, s8, eg, if_neg (show ¬ nI 30 < 30 by decide)]
  · refine Or.inr ⟨g, by omega, eg, ?_⟩
    obtain ⟨g1, g2, g3, g4, g5, g6, g7, g8, g9⟩ := h.un hu
    have hc := g1.lt
    have hl5 := chn_len (cd u) hc
    have hu8 : ∀ o p, ¬ (o = 1 ∧ p = 8) → uI c 1 8 (nI (g + 1)) o p = c o p := fun o p z => uI_at z
    have hm8 : ∀ o p, ¬ (o = 24 ∧ p = 46) → uI m 24 46 (nI (g + 1)) o p = m o p := fun o p z => uI_at z
    have h36 : ∀ p, uI m 24 46 (nI (g + 1)) 36 p = m 36 p := fun p => hm8 36 p (by omega)
    obtain ⟨S, x, y, e1, e2, inv, e63, e10⟩ := make_ok (N := N) (n := n) (u := u) (cd := cd) (pb := pb) (L := L) (c := uI c 1 8 (nI (g + 1))) (m := uI m 24 46 (nI (g + 1))) (Kd := 29 * (20 + g)) (Ka := 6 * (20 + g)) (Kn := 29 * (20 + g)) hN hn hu20 hc g1 (by simp only [h36]; exact g7) (fun j hj => by rw [hm8 25 j (by omega)]; exact h.cm j hj) (by omega) (by omega) (by omega) (by rw [hu8 _ _ (by omega)]; exact g3) (fun i hi => by rw [hu8 _ _ (by omega)]; exact g4 i hi) (fun i hi => by rw [hu8 _ _ (by omega), hm8 36 _ (by omega)]; exact g8 i hi) (by rw [hu8 _ _ (by omega), h.pt (k := 0) hu (by decide) (by decide) (by decide) (by decide) (by decide)]; exact g5) (fun j hj => by
        rw [hu8 _ _ (by omega), hm8 24 _ (by omega)]
        rcases (show j = 0 ∨ j = 1 ∨ j = 2 ∨ j = 3 by omega) with rfl | rfl | rfl | rfl
        · exact h.sc (o := 1) (p := 4) (b := 25) (by decide)
        · exact h.sc (o := 1) (p := 5) (b := 26) (by decide)
        · exact h.sc (o := 1) (p := 6) (b := 27) (by decide)
        · exact h.sc (o := 1) (p := 7) (b := 28) (by decide)) (fun i j hi hj => by
        rw [hu8 _ _ (by omega), hm8 _ _ (by omega)]
        exact h.1 3 (3 * i + j) (38 + j) i (Or.inr (Or.inr (Or.inr (Or.inl ⟨rfl, hi, by omega, by omega, by omega⟩)))) (fun z => absurd z (by decide))) (by rw [hm8 24 _ (by omega)]; exact ⟨d, hd, ed⟩) (by rw [hm8 24 _ (by omega)]; exact ⟨a, ha, ea⟩) (by rw [hm8 24 _ (by omega)]; exact eno)
    obtain ⟨ce1, ce2, ce3⟩ := chn_end (cd u) hc
    have lo0 : 0 < loC (cd u) (chn (cd u)).length := ce3 0 (by decide) ((show ∀ c, c < 29 → isL c 0 = true by decide) _ hc)
    have hp := inv.hp lo0
    have jd := judge_ok (N := N) (pb := pb) (L := L) (u := u) (S := S) (c0 := uI (uI c 1 8 (nI (g + 1))) (U u) 9 0) (cc := cd u) hN hu' hc (by rw [uI_at (by omega), uI_at (by omega)]; exact g3) (fun i hi => by rw [uI_at (by omega), uI_at (by omega)]; exact g4 i hi) hp
    have si0 := inv.si ce3 (by simp only [h36]; exact g7)
    generalize hw : (ansV 3 (cd u) (S 0) - S 0 6) &&& 1 = w at *
    have k64 : ∀ k, k ≠ 64 → uI S 0 64 w 0 k = S 0 k := fun k z => uI_at (fun q => z q.2)
    have k1 : ∀ j, uI S 0 64 w 1 j = S 1 j := fun j => uI_at (by omega)
    obtain ⟨d', d1, d2⟩ := inv.2.2.2.2.2.1
    obtain ⟨a', a1, a2⟩ := inv.2.2.2.2.2.2.2.1
    obtain ⟨n', n1, n2⟩ := inv.2.2.2.2.2.2.2.2.1
    have hr := h.made (u := u) (S := uI S 0 64 w) (x := x) (y := y) (g' := nI (g + 1)) (g := g + 1) (d := d') (a := a') hu (by
      refine si0.congr (fun k hk hd => k64 k (fun q => hd (by unfold dynP; omega)))) (by rw [k64 0 (by decide)]; exact inv.1) (by rw [HPw_64]; exact hp) (by rw [k64 63 (by decide)]; exact e63) (fun q => by rw [k64 10 (by decide)]; exact e10 q) (by omega) rfl (by rw [k1]; exact d2) (by omega) (by rw [k1]; exact a2) (by omega) (by rw [k1]; exact ⟨n', by omega, n2⟩)
    refine ⟨_, _, ?_, e2, hr, fun p => by rw [mS_o (by omega) (by omega) (by omega) (by omega) (by omega), uI_at (by omega)], by rw [mS_o (by omega) (by omega) (by omega) (by omega) (by omega), uI_at (by omega)]⟩
    have at1 : F_X10_unitAt 1 (nI u) (uI c 1 8 (nI (g + 1))) L (GRf pb) = some (U u) := unitAt_ok hn hu (by rw [uI_at (by omega)]; exact h.nc)
    have at2 : F_X10_unitAt 1 (nI u) (cS u S (uI (uI c 1 8 (nI (g + 1))) (U u) 9 0)) L (GRf pb) = some (U u) := unitAt_ok hn hu (by rw [cS_o (by omega) (by omega) (by omega), uI_at (by omega), uI_at (by omega)]; exact h.nc)
    have lt : (nI g < 30) = True := eq_true (nI_lt (b := 30) (by omega) (by decide))
    simp only [F_X10_restart, ck_1, if_true, s8, eg, lt, wre, nI_1, at1, b1e, ck_U hu', e1, at2, jd]
end P13
