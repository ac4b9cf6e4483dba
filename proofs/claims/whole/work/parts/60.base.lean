def U (u : Nat) : Nat := 58 + 4 * u
def grT : List (List (Option Nat)) := [[some 4, some 6, some 1, some 10, none], [some 2, some 138, some 3, none, none, none, none, none, none], [], [], [some 5, none, none, none, none, none, none, none, none, none], [], [some 7, some 8, some 9, none], [], [], [], [some 1, some 12, some 16, some 18, some 11, none, none, none, none, none, none, none, none], [], [some 1, some 13, some 14, some 15], [], [], [], [some 1, some 17, none, none, none, none], [], [some 19, none], [], [some 21, some 172, none], [], [some 23, some 203, none], [], [some 25, some 26, some 27, some 28, some 29, none, some 30, none, some 31, none, none, none, none, none, none, none, none, none, some 32, some 33, some 34, none, some 35, some 36, some 37, none, none, none, none, some 38, some 39, some 40, some 41, some 42, none, none, some 43, some 44, some 45, none, none, none, none, none, none, none, none, none, none, none, none, some 46, some 47, none, none, some 48, some 49, some 50, some 51, some 52, some 53, some 54, some 55, some 56]]
def GRf (pb : Nat) : MR := fun o k => if o = 10 ∧ k = 5 then some (20 + 2 * pb) else if o = 0 ∧ k = 4 then some (22 - 2 * pb) else if o = 2 then (if k < 20 then some (U k) else none) else if o = 21 then (if k < 30 then some (142 + k) else none) else if o = 23 then (if k < 30 then some (173 + k) else none) else if o < 25 then (grT.getD o []).getD k none else if 58 ≤ o ∧ o < 142 ∧ (o - 58) % 4 = 0 ∧ k < 3 then some (o + 1 + k) else none
theorem ck_0 : (kd 0 = 10 ∧ 0 < NN) = True := eq_true (by decide)
theorem rf_0_0 (pb : Nat) : rf (GRf pb) 0 0 7 = some 4 := (Eq.refl _).trans rfl
theorem rf_0_1 (pb : Nat) : rf (GRf pb) 0 1 0 = some 6 := (Eq.refl _).trans rfl
theorem rf_0_2 (pb : Nat) : rf (GRf pb) 0 2 9 = some 1 := (Eq.refl _).trans rfl
theorem rf_0_3 (pb : Nat) : rf (GRf pb) 0 3 2 = some 10 := (Eq.refl _).trans rfl
theorem ck_1 : (kd 1 = 9 ∧ 1 < NN) = True := eq_true (by decide)
theorem rf_1_0 (pb : Nat) : rf (GRf pb) 1 0 23 = some 2 := (Eq.refl _).trans rfl
theorem rf_1_1 (pb : Nat) : rf (GRf pb) 1 1 8 = some 138 := (Eq.refl _).trans rfl
theorem rf_1_2 (pb : Nat) : rf (GRf pb) 1 2 20 = some 3 := (Eq.refl _).trans rfl
theorem ck_4 : (kd 4 = 7 ∧ 4 < NN) = True := eq_true (by decide)
theorem rf_4_0 (pb : Nat) : rf (GRf pb) 4 0 20 = some 5 := (Eq.refl _).trans rfl
theorem ck_6 : (kd 6 = 0 ∧ 6 < NN) = True := eq_true (by decide)
theorem rf_6_0 (pb : Nat) : rf (GRf pb) 6 0 20 = some 7 := (Eq.refl _).trans rfl
theorem rf_6_1 (pb : Nat) : rf (GRf pb) 6 1 21 = some 8 := (Eq.refl _).trans rfl
theorem rf_6_2 (pb : Nat) : rf (GRf pb) 6 2 20 = some 9 := (Eq.refl _).trans rfl
theorem ck_10 : (kd 10 = 2 ∧ 10 < NN) = True := eq_true (by decide)
theorem rf_10_0 (pb : Nat) : rf (GRf pb) 10 0 9 = some 1 := (Eq.refl _).trans rfl
theorem rf_10_1 (pb : Nat) : rf (GRf pb) 10 1 6 = some 12 := (Eq.refl _).trans rfl
theorem rf_10_2 (pb : Nat) : rf (GRf pb) 10 2 5 = some 16 := (Eq.refl _).trans rfl
theorem rf_10_3 (pb : Nat) : rf (GRf pb) 10 3 1 = some 18 := (Eq.refl _).trans rfl
theorem rf_10_4 (pb : Nat) : rf (GRf pb) 10 4 20 = some 11 := (Eq.refl _).trans rfl
theorem ck_12 : (kd 12 = 6 ∧ 12 < NN) = True := eq_true (by decide)
theorem rf_12_0 (pb : Nat) : rf (GRf pb) 12 0 9 = some 1 := (Eq.refl _).trans rfl
theorem rf_12_1 (pb : Nat) : rf (GRf pb) 12 1 20 = some 13 := (Eq.refl _).trans rfl
theorem rf_12_2 (pb : Nat) : rf (GRf pb) 12 2 20 = some 14 := (Eq.refl _).trans rfl
theorem rf_12_3 (pb : Nat) : rf (GRf pb) 12 3 20 = some 15 := (Eq.refl _).trans rfl
theorem ck_16 : (kd 16 = 5 ∧ 16 < NN) = True := eq_true (by decide)
theorem rf_16_0 (pb : Nat) : rf (GRf pb) 16 0 9 = some 1 := (Eq.refl _).trans rfl
theorem rf_16_1 (pb : Nat) : rf (GRf pb) 16 1 20 = some 17 := (Eq.refl _).trans rfl
theorem ck_18 : (kd 18 = 1 ∧ 18 < NN) = True := eq_true (by decide)
theorem rf_18_0 (pb : Nat) : rf (GRf pb) 18 0 20 = some 19 := (Eq.refl _).trans rfl
theorem ck_20 : (kd 20 = 4 ∧ 20 < NN) = True := eq_true (by decide)
theorem rf_20_0 (pb : Nat) : rf (GRf pb) 20 0 24 = some 21 := (Eq.refl _).trans rfl
theorem rf_20_1 (pb : Nat) : rf (GRf pb) 20 1 3 = some 172 := (Eq.refl _).trans rfl
theorem ck_22 : (kd 22 = 4 ∧ 22 < NN) = True := eq_true (by decide)
theorem rf_22_0 (pb : Nat) : rf (GRf pb) 22 0 24 = some 23 := (Eq.refl _).trans rfl
theorem rf_22_1 (pb : Nat) : rf (GRf pb) 22 1 3 = some 203 := (Eq.refl _).trans rfl
theorem ck_24 : (kd 24 = 11 ∧ 24 < NN) = True := eq_true (by decide)
theorem rf_24_0 (pb : Nat) : rf (GRf pb) 24 0 20 = some 25 := (Eq.refl _).trans rfl
theorem rf_24_1 (pb : Nat) : rf (GRf pb) 24 1 20 = some 26 := (Eq.refl _).trans rfl
theorem rf_24_2 (pb : Nat) : rf (GRf pb) 24 2 20 = some 27 := (Eq.refl _).trans rfl
theorem rf_24_3 (pb : Nat) : rf (GRf pb) 24 3 20 = some 28 := (Eq.refl _).trans rfl
theorem rf_24_4 (pb : Nat) : rf (GRf pb) 24 4 20 = some 29 := (Eq.refl _).trans rfl
theorem rf_24_6 (pb : Nat) : rf (GRf pb) 24 6 20 = some 30 := (Eq.refl _).trans rfl
theorem rf_24_8 (pb : Nat) : rf (GRf pb) 24 8 20 = some 31 := (Eq.refl _).trans rfl
theorem rf_24_18 (pb : Nat) : rf (GRf pb) 24 18 20 = some 32 := (Eq.refl _).trans rfl
theorem rf_24_19 (pb : Nat) : rf (GRf pb) 24 19 20 = some 33 := (Eq.refl _).trans rfl
theorem rf_24_20 (pb : Nat) : rf (GRf pb) 24 20 20 = some 34 := (Eq.refl _).trans rfl
theorem rf_24_22 (pb : Nat) : rf (GRf pb) 24 22 20 = some 35 := (Eq.refl _).trans rfl
theorem rf_24_23 (pb : Nat) : rf (GRf pb) 24 23 20 = some 36 := (Eq.refl _).trans rfl
theorem rf_24_24 (pb : Nat) : rf (GRf pb) 24 24 20 = some 37 := (Eq.refl _).trans rfl
theorem rf_24_29 (pb : Nat) : rf (GRf pb) 24 29 20 = some 38 := (Eq.refl _).trans rfl
theorem rf_24_30 (pb : Nat) : rf (GRf pb) 24 30 20 = some 39 := (Eq.refl _).trans rfl
theorem rf_24_31 (pb : Nat) : rf (GRf pb) 24 31 20 = some 40 := (Eq.refl _).trans rfl
theorem rf_24_32 (pb : Nat) : rf (GRf pb) 24 32 20 = some 41 := (Eq.refl _).trans rfl
theorem rf_24_33 (pb : Nat) : rf (GRf pb) 24 33 20 = some 42 := (Eq.refl _).trans rfl
theorem rf_24_36 (pb : Nat) : rf (GRf pb) 24 36 20 = some 43 := (Eq.refl _).trans rfl
theorem rf_24_37 (pb : Nat) : rf (GRf pb) 24 37 20 = some 44 := (Eq.refl _).trans rfl
theorem rf_24_38 (pb : Nat) : rf (GRf pb) 24 38 20 = some 45 := (Eq.refl _).trans rfl
theorem rf_24_51 (pb : Nat) : rf (GRf pb) 24 51 20 = some 46 := (Eq.refl _).trans rfl
theorem rf_24_52 (pb : Nat) : rf (GRf pb) 24 52 20 = some 47 := (Eq.refl _).trans rfl
theorem rf_24_55 (pb : Nat) : rf (GRf pb) 24 55 20 = some 48 := (Eq.refl _).trans rfl
theorem rf_24_56 (pb : Nat) : rf (GRf pb) 24 56 20 = some 49 := (Eq.refl _).trans rfl
theorem rf_24_57 (pb : Nat) : rf (GRf pb) 24 57 20 = some 50 := (Eq.refl _).trans rfl
theorem rf_24_58 (pb : Nat) : rf (GRf pb) 24 58 20 = some 51 := (Eq.refl _).trans rfl
theorem rf_24_59 (pb : Nat) : rf (GRf pb) 24 59 22 = some 52 := (Eq.refl _).trans rfl
theorem rf_24_60 (pb : Nat) : rf (GRf pb) 24 60 22 = some 53 := (Eq.refl _).trans rfl
theorem rf_24_61 (pb : Nat) : rf (GRf pb) 24 61 20 = some 54 := (Eq.refl _).trans rfl
theorem rf_24_62 (pb : Nat) : rf (GRf pb) 24 62 20 = some 55 := (Eq.refl _).trans rfl
theorem rf_24_63 (pb : Nat) : rf (GRf pb) 24 63 20 = some 56 := (Eq.refl _).trans rfl
theorem ln_2 : ln 2 = 20 := by decide
theorem ln_3 : ln 3 = 300 := by decide
theorem ln_5 : ln 5 = 4000 := by decide
theorem ln_7 : ln 7 = 20 := by decide
theorem ln_8 : ln 8 = 20 := by decide
theorem ln_9 : ln 9 = 60 := by decide
theorem ln_11 : ln 11 = 12 := by decide
theorem ln_13 : ln 13 = 3 := by decide
theorem ln_14 : ln 14 = 3 := by decide
theorem ln_15 : ln 15 = 3 := by decide
theorem ln_17 : ln 17 = 20 := by decide
theorem ln_19 : ln 19 = 500 := by decide
theorem ln_21 : ln 21 = 30 := by decide
theorem ln_23 : ln 23 = 30 := by decide
theorem ln_25 : ln 25 = 29 := by decide
theorem ln_26 : ln 26 = 65 := by decide
theorem ln_27 : ln 27 = 146 := by decide
theorem ln_28 : ln 28 = 22 := by decide
theorem ln_29 : ln 29 = 89 := by decide
theorem ln_30 : ln 30 = 4000 := by decide
theorem ln_31 : ln 31 = 4000 := by decide
theorem ln_32 : ln 32 = 20 := by decide
theorem ln_33 : ln 33 = 160 := by decide
theorem ln_34 : ln 34 = 60 := by decide
theorem ln_35 : ln 35 = 160 := by decide
theorem ln_36 : ln 36 = 60 := by decide
theorem ln_37 : ln 37 = 1300 := by decide
theorem ln_38 : ln 38 = 100 := by decide
theorem ln_39 : ln 39 = 100 := by decide
theorem ln_40 : ln 40 = 100 := by decide
theorem ln_41 : ln 41 = 6 := by decide
theorem ln_42 : ln 42 = 6 := by decide
theorem ln_43 : ln 43 = 3 := by decide
theorem ln_44 : ln 44 = 3 := by decide
theorem ln_45 : ln 45 = 3 := by decide
theorem ln_46 : ln 46 = 500 := by decide
theorem ln_47 : ln 47 = 40000 := by decide
theorem ln_48 : ln 48 = 240 := by decide
theorem ln_49 : ln 49 = 240 := by decide
theorem ln_50 : ln 50 = 30 := by decide
theorem ln_51 : ln 51 = 30 := by decide
theorem ln_52 : ln 52 = 30 := by decide
theorem ln_53 : ln 53 = 30 := by decide
theorem ln_54 : ln 54 = 16 := by decide
theorem ln_55 : ln 55 = 20 := by decide
theorem ln_56 : ln 56 = 12 := by decide
theorem ln_57 : ln 57 = 1 := by decide
theorem kd_U {u : Nat} (hu : u ≤ 20) : kd (U u) = 8 := by
  unfold kd U
  rw [if_neg (by omega), if_pos (by omega), if_pos (by omega)]
theorem lt_U {u : Nat} (hu : u ≤ 20) : U u < NN := by
  unfold U NN
  omega
theorem ck_U {u : Nat} (hu : u ≤ 20) : (kd (U u) = 8 ∧ U u < NN) = True := eq_true ⟨kd_U hu, lt_U hu⟩
theorem kd_Uj {u j : Nat} (hu : u ≤ 20) (h1 : 1 ≤ j) (h2 : j ≤ 3) : kd (U u + j) = 20 := by
  unfold kd U
  rw [if_neg (by omega), if_pos (by omega), if_neg (by omega)]
theorem lt_Uj {u j : Nat} (hu : u ≤ 20) (h2 : j ≤ 3) : U u + j < NN := by
  unfold U NN
  omega
theorem ln_U1 {u : Nat} (hu : u ≤ 20) : ln (U u + 1) = 65 := by
  unfold ln U
  rw [if_neg (by omega), if_pos (by omega), show (58 + 4 * u + 1 - 58) % 4 = 1 by omega]
  rfl
theorem ln_U2 {u : Nat} (hu : u ≤ 20) : ln (U u + 2) = 5 := by
  unfold ln U
  rw [if_neg (by omega), if_pos (by omega), show (58 + 4 * u + 2 - 58) % 4 = 2 by omega]
  rfl
theorem ln_U3 {u : Nat} (hu : u ≤ 20) : ln (U u + 3) = 2000 := by
  unfold ln U
  rw [if_neg (by omega), if_pos (by omega), show (58 + 4 * u + 3 - 58) % 4 = 3 by omega]
  rfl
theorem GR_U {pb u k : Nat} (hu : u ≤ 20) (hk : k < 3) : GRf pb (U u) k = some (U u + 1 + k) := by
  unfold GRf U
  rw [if_neg (by omega), if_neg (by omega), if_neg (by omega), if_neg (by omega), if_neg (by omega), if_neg (by omega), if_pos (by omega)]
theorem rf_U0 {pb u : Nat} (hu : u ≤ 20) : rf (GRf pb) (U u) 0 20 = some (U u + 1) := by
  simp [rf, GR_U hu, Nat.add_assoc, kd_Uj hu, lt_Uj hu]
theorem rf_U1 {pb u : Nat} (hu : u ≤ 20) : rf (GRf pb) (U u) 1 20 = some (U u + 2) := by
  simp [rf, GR_U hu, Nat.add_assoc, kd_Uj hu, lt_Uj hu]
theorem rf_U2 {pb u : Nat} (hu : u ≤ 20) : rf (GRf pb) (U u) 2 20 = some (U u + 3) := by
  simp [rf, GR_U hu, Nat.add_assoc, kd_Uj hu, lt_Uj hu]
theorem inb_nI {k n : Nat} (h : k < n) (hn : n < 2 ^ 31) : inb (nI k) n = true := by
  simp only [inb, Bool.and_eq_true, Bool.not_eq_true', decide_eq_false_iff_not, decide_eq_true_eq]
  exact ⟨nI_pos (by omega), by rw [nI_clamp (by omega)]; exact h⟩
theorem ix_nI {k : Nat} (h : k < 2 ^ 31) : ix (nI k) = k := nI_clamp h
theorem ri_nI {I : MI} {a k n : Nat} (h : ln a = n) (hk : k < n) (hn : n < 2 ^ 31) : ri I a (nI k) = some (I a k) := by
  unfold ri
  rw [h, if_pos (inb_nI hk hn), ix_nI (by omega)]
theorem wi_nI {I : MI} {a k n : Nat} {x : Int32} (h : ln a = n) (hk : k < n) (hn : n < 2 ^ 31) : wi I a (nI k) x = some (uI I a k x) := by
  unfold wi
  rw [h, if_pos (inb_nI hk hn), ix_nI (by omega)]
theorem ra_units {pb u : Nat} (hu : u < 20) : ra (GRf pb) 2 (nI u) 8 = some (U u) := by
  unfold ra
  rw [ln_2, if_pos (inb_nI hu (by decide)), ix_nI (by omega)]
  have h1 : GRf pb 2 u = some (U u) := by
    unfold GRf
    simp [hu]
  simp [rf, h1, kd_U (show u ≤ 20 by omega), lt_U (show u ≤ 20 by omega)]
theorem rp_0 {I : MI} {u : Nat} (hu : u ≤ 20) : ri I (U u + 1) (0 : Int32) = some (I (U u + 1) 0) := ri_nI (k := 0) (ln_U1 hu) (by decide) (by decide)
theorem wp_0 {I : MI} {u : Nat} {x : Int32} (hu : u ≤ 20) : wi I (U u + 1) (0 : Int32) x = some (uI I (U u + 1) 0 x) := wi_nI (k := 0) (ln_U1 hu) (by decide) (by decide)
theorem rp_1 {I : MI} {u : Nat} (hu : u ≤ 20) : ri I (U u + 1) (1 : Int32) = some (I (U u + 1) 1) := ri_nI (k := 1) (ln_U1 hu) (by decide) (by decide)
theorem wp_1 {I : MI} {u : Nat} {x : Int32} (hu : u ≤ 20) : wi I (U u + 1) (1 : Int32) x = some (uI I (U u + 1) 1 x) := wi_nI (k := 1) (ln_U1 hu) (by decide) (by decide)
theorem rp_2 {I : MI} {u : Nat} (hu : u ≤ 20) : ri I (U u + 1) (2 : Int32) = some (I (U u + 1) 2) := ri_nI (k := 2) (ln_U1 hu) (by decide) (by decide)
theorem wp_2 {I : MI} {u : Nat} {x : Int32} (hu : u ≤ 20) : wi I (U u + 1) (2 : Int32) x = some (uI I (U u + 1) 2 x) := wi_nI (k := 2) (ln_U1 hu) (by decide) (by decide)
theorem rp_3 {I : MI} {u : Nat} (hu : u ≤ 20) : ri I (U u + 1) (3 : Int32) = some (I (U u + 1) 3) := ri_nI (k := 3) (ln_U1 hu) (by decide) (by decide)
theorem wp_3 {I : MI} {u : Nat} {x : Int32} (hu : u ≤ 20) : wi I (U u + 1) (3 : Int32) x = some (uI I (U u + 1) 3 x) := wi_nI (k := 3) (ln_U1 hu) (by decide) (by decide)
theorem rp_4 {I : MI} {u : Nat} (hu : u ≤ 20) : ri I (U u + 1) (4 : Int32) = some (I (U u + 1) 4) := ri_nI (k := 4) (ln_U1 hu) (by decide) (by decide)
theorem wp_4 {I : MI} {u : Nat} {x : Int32} (hu : u ≤ 20) : wi I (U u + 1) (4 : Int32) x = some (uI I (U u + 1) 4 x) := wi_nI (k := 4) (ln_U1 hu) (by decide) (by decide)
theorem rp_5 {I : MI} {u : Nat} (hu : u ≤ 20) : ri I (U u + 1) (5 : Int32) = some (I (U u + 1) 5) := ri_nI (k := 5) (ln_U1 hu) (by decide) (by decide)
theorem wp_5 {I : MI} {u : Nat} {x : Int32} (hu : u ≤ 20) : wi I (U u + 1) (5 : Int32) x = some (uI I (U u + 1) 5 x) := wi_nI (k := 5) (ln_U1 hu) (by decide) (by decide)
theorem rp_6 {I : MI} {u : Nat} (hu : u ≤ 20) : ri I (U u + 1) (6 : Int32) = some (I (U u + 1) 6) := ri_nI (k := 6) (ln_U1 hu) (by decide) (by decide)
theorem wp_6 {I : MI} {u : Nat} {x : Int32} (hu : u ≤ 20) : wi I (U u + 1) (6 : Int32) x = some (uI I (U u + 1) 6 x) := wi_nI (k := 6) (ln_U1 hu) (by decide) (by decide)
theorem rp_7 {I : MI} {u : Nat} (hu : u ≤ 20) : ri I (U u + 1) (7 : Int32) = some (I (U u + 1) 7) := ri_nI (k := 7) (ln_U1 hu) (by decide) (by decide)
theorem wp_7 {I : MI} {u : Nat} {x : Int32} (hu : u ≤ 20) : wi I (U u + 1) (7 : Int32) x = some (uI I (U u + 1) 7 x) := wi_nI (k := 7) (ln_U1 hu) (by decide) (by decide)
theorem rp_8 {I : MI} {u : Nat} (hu : u ≤ 20) : ri I (U u + 1) (8 : Int32) = some (I (U u + 1) 8) := ri_nI (k := 8) (ln_U1 hu) (by decide) (by decide)
theorem wp_8 {I : MI} {u : Nat} {x : Int32} (hu : u ≤ 20) : wi I (U u + 1) (8 : Int32) x = some (uI I (U u + 1) 8 x) := wi_nI (k := 8) (ln_U1 hu) (by decide) (by decide)
theorem rp_9 {I : MI} {u : Nat} (hu : u ≤ 20) : ri I (U u + 1) (9 : Int32) = some (I (U u + 1) 9) := ri_nI (k := 9) (ln_U1 hu) (by decide) (by decide)
theorem wp_9 {I : MI} {u : Nat} {x : Int32} (hu : u ≤ 20) : wi I (U u + 1) (9 : Int32) x = some (uI I (U u + 1) 9 x) := wi_nI (k := 9) (ln_U1 hu) (by decide) (by decide)
theorem rp_10 {I : MI} {u : Nat} (hu : u ≤ 20) : ri I (U u + 1) (10 : Int32) = some (I (U u + 1) 10) := ri_nI (k := 10) (ln_U1 hu) (by decide) (by decide)
theorem wp_10 {I : MI} {u : Nat} {x : Int32} (hu : u ≤ 20) : wi I (U u + 1) (10 : Int32) x = some (uI I (U u + 1) 10 x) := wi_nI (k := 10) (ln_U1 hu) (by decide) (by decide)
theorem rp_11 {I : MI} {u : Nat} (hu : u ≤ 20) : ri I (U u + 1) (11 : Int32) = some (I (U u + 1) 11) := ri_nI (k := 11) (ln_U1 hu) (by decide) (by decide)
theorem wp_11 {I : MI} {u : Nat} {x : Int32} (hu : u ≤ 20) : wi I (U u + 1) (11 : Int32) x = some (uI I (U u + 1) 11 x) := wi_nI (k := 11) (ln_U1 hu) (by decide) (by decide)
theorem rp_12 {I : MI} {u : Nat} (hu : u ≤ 20) : ri I (U u + 1) (12 : Int32) = some (I (U u + 1) 12) := ri_nI (k := 12) (ln_U1 hu) (by decide) (by decide)
theorem wp_12 {I : MI} {u : Nat} {x : Int32} (hu : u ≤ 20) : wi I (U u + 1) (12 : Int32) x = some (uI I (U u + 1) 12 x) := wi_nI (k := 12) (ln_U1 hu) (by decide) (by decide)
theorem rp_13 {I : MI} {u : Nat} (hu : u ≤ 20) : ri I (U u + 1) (13 : Int32) = some (I (U u + 1) 13) := ri_nI (k := 13) (ln_U1 hu) (by decide) (by decide)
theorem wp_13 {I : MI} {u : Nat} {x : Int32} (hu : u ≤ 20) : wi I (U u + 1) (13 : Int32) x = some (uI I (U u + 1) 13 x) := wi_nI (k := 13) (ln_U1 hu) (by decide) (by decide)
theorem rp_14 {I : MI} {u : Nat} (hu : u ≤ 20) : ri I (U u + 1) (14 : Int32) = some (I (U u + 1) 14) := ri_nI (k := 14) (ln_U1 hu) (by decide) (by decide)
theorem wp_14 {I : MI} {u : Nat} {x : Int32} (hu : u ≤ 20) : wi I (U u + 1) (14 : Int32) x = some (uI I (U u + 1) 14 x) := wi_nI (k := 14) (ln_U1 hu) (by decide) (by decide)
theorem rp_15 {I : MI} {u : Nat} (hu : u ≤ 20) : ri I (U u + 1) (15 : Int32) = some (I (U u + 1) 15) := ri_nI (k := 15) (ln_U1 hu) (by decide) (by decide)
theorem wp_15 {I : MI} {u : Nat} {x : Int32} (hu : u ≤ 20) : wi I (U u + 1) (15 : Int32) x = some (uI I (U u + 1) 15 x) := wi_nI (k := 15) (ln_U1 hu) (by decide) (by decide)
theorem rp_16 {I : MI} {u : Nat} (hu : u ≤ 20) : ri I (U u + 1) (16 : Int32) = some (I (U u + 1) 16) := ri_nI (k := 16) (ln_U1 hu) (by decide) (by decide)
theorem wp_16 {I : MI} {u : Nat} {x : Int32} (hu : u ≤ 20) : wi I (U u + 1) (16 : Int32) x = some (uI I (U u + 1) 16 x) := wi_nI (k := 16) (ln_U1 hu) (by decide) (by decide)
theorem rp_17 {I : MI} {u : Nat} (hu : u ≤ 20) : ri I (U u + 1) (17 : Int32) = some (I (U u + 1) 17) := ri_nI (k := 17) (ln_U1 hu) (by decide) (by decide)
theorem wp_17 {I : MI} {u : Nat} {x : Int32} (hu : u ≤ 20) : wi I (U u + 1) (17 : Int32) x = some (uI I (U u + 1) 17 x) := wi_nI (k := 17) (ln_U1 hu) (by decide) (by decide)
theorem rp_18 {I : MI} {u : Nat} (hu : u ≤ 20) : ri I (U u + 1) (18 : Int32) = some (I (U u + 1) 18) := ri_nI (k := 18) (ln_U1 hu) (by decide) (by decide)
theorem wp_18 {I : MI} {u : Nat} {x : Int32} (hu : u ≤ 20) : wi I (U u + 1) (18 : Int32) x = some (uI I (U u + 1) 18 x) := wi_nI (k := 18) (ln_U1 hu) (by decide) (by decide)
theorem rp_19 {I : MI} {u : Nat} (hu : u ≤ 20) : ri I (U u + 1) (19 : Int32) = some (I (U u + 1) 19) := ri_nI (k := 19) (ln_U1 hu) (by decide) (by decide)
theorem wp_19 {I : MI} {u : Nat} {x : Int32} (hu : u ≤ 20) : wi I (U u + 1) (19 : Int32) x = some (uI I (U u + 1) 19 x) := wi_nI (k := 19) (ln_U1 hu) (by decide) (by decide)
theorem rp_20 {I : MI} {u : Nat} (hu : u ≤ 20) : ri I (U u + 1) (20 : Int32) = some (I (U u + 1) 20) := ri_nI (k := 20) (ln_U1 hu) (by decide) (by decide)
theorem wp_20 {I : MI} {u : Nat} {x : Int32} (hu : u ≤ 20) : wi I (U u + 1) (20 : Int32) x = some (uI I (U u + 1) 20 x) := wi_nI (k := 20) (ln_U1 hu) (by decide) (by decide)
theorem rp_21 {I : MI} {u : Nat} (hu : u ≤ 20) : ri I (U u + 1) (21 : Int32) = some (I (U u + 1) 21) := ri_nI (k := 21) (ln_U1 hu) (by decide) (by decide)
theorem wp_21 {I : MI} {u : Nat} {x : Int32} (hu : u ≤ 20) : wi I (U u + 1) (21 : Int32) x = some (uI I (U u + 1) 21 x) := wi_nI (k := 21) (ln_U1 hu) (by decide) (by decide)
theorem rp_22 {I : MI} {u : Nat} (hu : u ≤ 20) : ri I (U u + 1) (22 : Int32) = some (I (U u + 1) 22) := ri_nI (k := 22) (ln_U1 hu) (by decide) (by decide)
theorem wp_22 {I : MI} {u : Nat} {x : Int32} (hu : u ≤ 20) : wi I (U u + 1) (22 : Int32) x = some (uI I (U u + 1) 22 x) := wi_nI (k := 22) (ln_U1 hu) (by decide) (by decide)
theorem rp_23 {I : MI} {u : Nat} (hu : u ≤ 20) : ri I (U u + 1) (23 : Int32) = some (I (U u + 1) 23) := ri_nI (k := 23) (ln_U1 hu) (by decide) (by decide)
theorem wp_23 {I : MI} {u : Nat} {x : Int32} (hu : u ≤ 20) : wi I (U u + 1) (23 : Int32) x = some (uI I (U u + 1) 23 x) := wi_nI (k := 23) (ln_U1 hu) (by decide) (by decide)
theorem rp_24 {I : MI} {u : Nat} (hu : u ≤ 20) : ri I (U u + 1) (24 : Int32) = some (I (U u + 1) 24) := ri_nI (k := 24) (ln_U1 hu) (by decide) (by decide)
theorem wp_24 {I : MI} {u : Nat} {x : Int32} (hu : u ≤ 20) : wi I (U u + 1) (24 : Int32) x = some (uI I (U u + 1) 24 x) := wi_nI (k := 24) (ln_U1 hu) (by decide) (by decide)
theorem rp_25 {I : MI} {u : Nat} (hu : u ≤ 20) : ri I (U u + 1) (25 : Int32) = some (I (U u + 1) 25) := ri_nI (k := 25) (ln_U1 hu) (by decide) (by decide)
theorem wp_25 {I : MI} {u : Nat} {x : Int32} (hu : u ≤ 20) : wi I (U u + 1) (25 : Int32) x = some (uI I (U u + 1) 25 x) := wi_nI (k := 25) (ln_U1 hu) (by decide) (by decide)
theorem rp_26 {I : MI} {u : Nat} (hu : u ≤ 20) : ri I (U u + 1) (26 : Int32) = some (I (U u + 1) 26) := ri_nI (k := 26) (ln_U1 hu) (by decide) (by decide)
theorem wp_26 {I : MI} {u : Nat} {x : Int32} (hu : u ≤ 20) : wi I (U u + 1) (26 : Int32) x = some (uI I (U u + 1) 26 x) := wi_nI (k := 26) (ln_U1 hu) (by decide) (by decide)
theorem rp_27 {I : MI} {u : Nat} (hu : u ≤ 20) : ri I (U u + 1) (27 : Int32) = some (I (U u + 1) 27) := ri_nI (k := 27) (ln_U1 hu) (by decide) (by decide)
theorem wp_27 {I : MI} {u : Nat} {x : Int32} (hu : u ≤ 20) : wi I (U u + 1) (27 : Int32) x = some (uI I (U u + 1) 27 x) := wi_nI (k := 27) (ln_U1 hu) (by decide) (by decide)
theorem rp_28 {I : MI} {u : Nat} (hu : u ≤ 20) : ri I (U u + 1) (28 : Int32) = some (I (U u + 1) 28) := ri_nI (k := 28) (ln_U1 hu) (by decide) (by decide)
theorem wp_28 {I : MI} {u : Nat} {x : Int32} (hu : u ≤ 20) : wi I (U u + 1) (28 : Int32) x = some (uI I (U u + 1) 28 x) := wi_nI (k := 28) (ln_U1 hu) (by decide) (by decide)
theorem rp_29 {I : MI} {u : Nat} (hu : u ≤ 20) : ri I (U u + 1) (29 : Int32) = some (I (U u + 1) 29) := ri_nI (k := 29) (ln_U1 hu) (by decide) (by decide)
theorem wp_29 {I : MI} {u : Nat} {x : Int32} (hu : u ≤ 20) : wi I (U u + 1) (29 : Int32) x = some (uI I (U u + 1) 29 x) := wi_nI (k := 29) (ln_U1 hu) (by decide) (by decide)
theorem rp_30 {I : MI} {u : Nat} (hu : u ≤ 20) : ri I (U u + 1) (30 : Int32) = some (I (U u + 1) 30) := ri_nI (k := 30) (ln_U1 hu) (by decide) (by decide)
theorem wp_30 {I : MI} {u : Nat} {x : Int32} (hu : u ≤ 20) : wi I (U u + 1) (30 : Int32) x = some (uI I (U u + 1) 30 x) := wi_nI (k := 30) (ln_U1 hu) (by decide) (by decide)
theorem rp_31 {I : MI} {u : Nat} (hu : u ≤ 20) : ri I (U u + 1) (31 : Int32) = some (I (U u + 1) 31) := ri_nI (k := 31) (ln_U1 hu) (by decide) (by decide)
theorem wp_31 {I : MI} {u : Nat} {x : Int32} (hu : u ≤ 20) : wi I (U u + 1) (31 : Int32) x = some (uI I (U u + 1) 31 x) := wi_nI (k := 31) (ln_U1 hu) (by decide) (by decide)
theorem rp_32 {I : MI} {u : Nat} (hu : u ≤ 20) : ri I (U u + 1) (32 : Int32) = some (I (U u + 1) 32) := ri_nI (k := 32) (ln_U1 hu) (by decide) (by decide)
theorem wp_32 {I : MI} {u : Nat} {x : Int32} (hu : u ≤ 20) : wi I (U u + 1) (32 : Int32) x = some (uI I (U u + 1) 32 x) := wi_nI (k := 32) (ln_U1 hu) (by decide) (by decide)
theorem rp_33 {I : MI} {u : Nat} (hu : u ≤ 20) : ri I (U u + 1) (33 : Int32) = some (I (U u + 1) 33) := ri_nI (k := 33) (ln_U1 hu) (by decide) (by decide)
theorem wp_33 {I : MI} {u : Nat} {x : Int32} (hu : u ≤ 20) : wi I (U u + 1) (33 : Int32) x = some (uI I (U u + 1) 33 x) := wi_nI (k := 33) (ln_U1 hu) (by decide) (by decide)
theorem rp_34 {I : MI} {u : Nat} (hu : u ≤ 20) : ri I (U u + 1) (34 : Int32) = some (I (U u + 1) 34) := ri_nI (k := 34) (ln_U1 hu) (by decide) (by decide)
theorem wp_34 {I : MI} {u : Nat} {x : Int32} (hu : u ≤ 20) : wi I (U u + 1) (34 : Int32) x = some (uI I (U u + 1) 34 x) := wi_nI (k := 34) (ln_U1 hu) (by decide) (by decide)
theorem rp_35 {I : MI} {u : Nat} (hu : u ≤ 20) : ri I (U u + 1) (35 : Int32) = some (I (U u + 1) 35) := ri_nI (k := 35) (ln_U1 hu) (by decide) (by decide)
theorem wp_35 {I : MI} {u : Nat} {x : Int32} (hu : u ≤ 20) : wi I (U u + 1) (35 : Int32) x = some (uI I (U u + 1) 35 x) := wi_nI (k := 35) (ln_U1 hu) (by decide) (by decide)
theorem rp_36 {I : MI} {u : Nat} (hu : u ≤ 20) : ri I (U u + 1) (36 : Int32) = some (I (U u + 1) 36) := ri_nI (k := 36) (ln_U1 hu) (by decide) (by decide)
theorem wp_36 {I : MI} {u : Nat} {x : Int32} (hu : u ≤ 20) : wi I (U u + 1) (36 : Int32) x = some (uI I (U u + 1) 36 x) := wi_nI (k := 36) (ln_U1 hu) (by decide) (by decide)
theorem rp_37 {I : MI} {u : Nat} (hu : u ≤ 20) : ri I (U u + 1) (37 : Int32) = some (I (U u + 1) 37) := ri_nI (k := 37) (ln_U1 hu) (by decide) (by decide)
theorem wp_37 {I : MI} {u : Nat} {x : Int32} (hu : u ≤ 20) : wi I (U u + 1) (37 : Int32) x = some (uI I (U u + 1) 37 x) := wi_nI (k := 37) (ln_U1 hu) (by decide) (by decide)
theorem rp_38 {I : MI} {u : Nat} (hu : u ≤ 20) : ri I (U u + 1) (38 : Int32) = some (I (U u + 1) 38) := ri_nI (k := 38) (ln_U1 hu) (by decide) (by decide)
theorem wp_38 {I : MI} {u : Nat} {x : Int32} (hu : u ≤ 20) : wi I (U u + 1) (38 : Int32) x = some (uI I (U u + 1) 38 x) := wi_nI (k := 38) (ln_U1 hu) (by decide) (by decide)
theorem rp_39 {I : MI} {u : Nat} (hu : u ≤ 20) : ri I (U u + 1) (39 : Int32) = some (I (U u + 1) 39) := ri_nI (k := 39) (ln_U1 hu) (by decide) (by decide)
theorem wp_39 {I : MI} {u : Nat} {x : Int32} (hu : u ≤ 20) : wi I (U u + 1) (39 : Int32) x = some (uI I (U u + 1) 39 x) := wi_nI (k := 39) (ln_U1 hu) (by decide) (by decide)
theorem rp_40 {I : MI} {u : Nat} (hu : u ≤ 20) : ri I (U u + 1) (40 : Int32) = some (I (U u + 1) 40) := ri_nI (k := 40) (ln_U1 hu) (by decide) (by decide)
theorem wp_40 {I : MI} {u : Nat} {x : Int32} (hu : u ≤ 20) : wi I (U u + 1) (40 : Int32) x = some (uI I (U u + 1) 40 x) := wi_nI (k := 40) (ln_U1 hu) (by decide) (by decide)
theorem rp_41 {I : MI} {u : Nat} (hu : u ≤ 20) : ri I (U u + 1) (41 : Int32) = some (I (U u + 1) 41) := ri_nI (k := 41) (ln_U1 hu) (by decide) (by decide)
theorem wp_41 {I : MI} {u : Nat} {x : Int32} (hu : u ≤ 20) : wi I (U u + 1) (41 : Int32) x = some (uI I (U u + 1) 41 x) := wi_nI (k := 41) (ln_U1 hu) (by decide) (by decide)
theorem rp_42 {I : MI} {u : Nat} (hu : u ≤ 20) : ri I (U u + 1) (42 : Int32) = some (I (U u + 1) 42) := ri_nI (k := 42) (ln_U1 hu) (by decide) (by decide)
theorem wp_42 {I : MI} {u : Nat} {x : Int32} (hu : u ≤ 20) : wi I (U u + 1) (42 : Int32) x = some (uI I (U u + 1) 42 x) := wi_nI (k := 42) (ln_U1 hu) (by decide) (by decide)
theorem rp_43 {I : MI} {u : Nat} (hu : u ≤ 20) : ri I (U u + 1) (43 : Int32) = some (I (U u + 1) 43) := ri_nI (k := 43) (ln_U1 hu) (by decide) (by decide)
theorem wp_43 {I : MI} {u : Nat} {x : Int32} (hu : u ≤ 20) : wi I (U u + 1) (43 : Int32) x = some (uI I (U u + 1) 43 x) := wi_nI (k := 43) (ln_U1 hu) (by decide) (by decide)
theorem rp_44 {I : MI} {u : Nat} (hu : u ≤ 20) : ri I (U u + 1) (44 : Int32) = some (I (U u + 1) 44) := ri_nI (k := 44) (ln_U1 hu) (by decide) (by decide)
theorem wp_44 {I : MI} {u : Nat} {x : Int32} (hu : u ≤ 20) : wi I (U u + 1) (44 : Int32) x = some (uI I (U u + 1) 44 x) := wi_nI (k := 44) (ln_U1 hu) (by decide) (by decide)
theorem rp_45 {I : MI} {u : Nat} (hu : u ≤ 20) : ri I (U u + 1) (45 : Int32) = some (I (U u + 1) 45) := ri_nI (k := 45) (ln_U1 hu) (by decide) (by decide)
theorem wp_45 {I : MI} {u : Nat} {x : Int32} (hu : u ≤ 20) : wi I (U u + 1) (45 : Int32) x = some (uI I (U u + 1) 45 x) := wi_nI (k := 45) (ln_U1 hu) (by decide) (by decide)
theorem rp_46 {I : MI} {u : Nat} (hu : u ≤ 20) : ri I (U u + 1) (46 : Int32) = some (I (U u + 1) 46) := ri_nI (k := 46) (ln_U1 hu) (by decide) (by decide)
theorem wp_46 {I : MI} {u : Nat} {x : Int32} (hu : u ≤ 20) : wi I (U u + 1) (46 : Int32) x = some (uI I (U u + 1) 46 x) := wi_nI (k := 46) (ln_U1 hu) (by decide) (by decide)
theorem rp_47 {I : MI} {u : Nat} (hu : u ≤ 20) : ri I (U u + 1) (47 : Int32) = some (I (U u + 1) 47) := ri_nI (k := 47) (ln_U1 hu) (by decide) (by decide)
theorem wp_47 {I : MI} {u : Nat} {x : Int32} (hu : u ≤ 20) : wi I (U u + 1) (47 : Int32) x = some (uI I (U u + 1) 47 x) := wi_nI (k := 47) (ln_U1 hu) (by decide) (by decide)
theorem rp_48 {I : MI} {u : Nat} (hu : u ≤ 20) : ri I (U u + 1) (48 : Int32) = some (I (U u + 1) 48) := ri_nI (k := 48) (ln_U1 hu) (by decide) (by decide)
theorem wp_48 {I : MI} {u : Nat} {x : Int32} (hu : u ≤ 20) : wi I (U u + 1) (48 : Int32) x = some (uI I (U u + 1) 48 x) := wi_nI (k := 48) (ln_U1 hu) (by decide) (by decide)
theorem rp_49 {I : MI} {u : Nat} (hu : u ≤ 20) : ri I (U u + 1) (49 : Int32) = some (I (U u + 1) 49) := ri_nI (k := 49) (ln_U1 hu) (by decide) (by decide)
theorem wp_49 {I : MI} {u : Nat} {x : Int32} (hu : u ≤ 20) : wi I (U u + 1) (49 : Int32) x = some (uI I (U u + 1) 49 x) := wi_nI (k := 49) (ln_U1 hu) (by decide) (by decide)
theorem rp_50 {I : MI} {u : Nat} (hu : u ≤ 20) : ri I (U u + 1) (50 : Int32) = some (I (U u + 1) 50) := ri_nI (k := 50) (ln_U1 hu) (by decide) (by decide)
theorem wp_50 {I : MI} {u : Nat} {x : Int32} (hu : u ≤ 20) : wi I (U u + 1) (50 : Int32) x = some (uI I (U u + 1) 50 x) := wi_nI (k := 50) (ln_U1 hu) (by decide) (by decide)
theorem rp_51 {I : MI} {u : Nat} (hu : u ≤ 20) : ri I (U u + 1) (51 : Int32) = some (I (U u + 1) 51) := ri_nI (k := 51) (ln_U1 hu) (by decide) (by decide)
theorem wp_51 {I : MI} {u : Nat} {x : Int32} (hu : u ≤ 20) : wi I (U u + 1) (51 : Int32) x = some (uI I (U u + 1) 51 x) := wi_nI (k := 51) (ln_U1 hu) (by decide) (by decide)
theorem rp_52 {I : MI} {u : Nat} (hu : u ≤ 20) : ri I (U u + 1) (52 : Int32) = some (I (U u + 1) 52) := ri_nI (k := 52) (ln_U1 hu) (by decide) (by decide)
theorem wp_52 {I : MI} {u : Nat} {x : Int32} (hu : u ≤ 20) : wi I (U u + 1) (52 : Int32) x = some (uI I (U u + 1) 52 x) := wi_nI (k := 52) (ln_U1 hu) (by decide) (by decide)
theorem rp_53 {I : MI} {u : Nat} (hu : u ≤ 20) : ri I (U u + 1) (53 : Int32) = some (I (U u + 1) 53) := ri_nI (k := 53) (ln_U1 hu) (by decide) (by decide)
theorem wp_53 {I : MI} {u : Nat} {x : Int32} (hu : u ≤ 20) : wi I (U u + 1) (53 : Int32) x = some (uI I (U u + 1) 53 x) := wi_nI (k := 53) (ln_U1 hu) (by decide) (by decide)
theorem rp_54 {I : MI} {u : Nat} (hu : u ≤ 20) : ri I (U u + 1) (54 : Int32) = some (I (U u + 1) 54) := ri_nI (k := 54) (ln_U1 hu) (by decide) (by decide)
theorem wp_54 {I : MI} {u : Nat} {x : Int32} (hu : u ≤ 20) : wi I (U u + 1) (54 : Int32) x = some (uI I (U u + 1) 54 x) := wi_nI (k := 54) (ln_U1 hu) (by decide) (by decide)
theorem rp_55 {I : MI} {u : Nat} (hu : u ≤ 20) : ri I (U u + 1) (55 : Int32) = some (I (U u + 1) 55) := ri_nI (k := 55) (ln_U1 hu) (by decide) (by decide)
theorem wp_55 {I : MI} {u : Nat} {x : Int32} (hu : u ≤ 20) : wi I (U u + 1) (55 : Int32) x = some (uI I (U u + 1) 55 x) := wi_nI (k := 55) (ln_U1 hu) (by decide) (by decide)
theorem rp_56 {I : MI} {u : Nat} (hu : u ≤ 20) : ri I (U u + 1) (56 : Int32) = some (I (U u + 1) 56) := ri_nI (k := 56) (ln_U1 hu) (by decide) (by decide)
theorem wp_56 {I : MI} {u : Nat} {x : Int32} (hu : u ≤ 20) : wi I (U u + 1) (56 : Int32) x = some (uI I (U u + 1) 56 x) := wi_nI (k := 56) (ln_U1 hu) (by decide) (by decide)
theorem rp_57 {I : MI} {u : Nat} (hu : u ≤ 20) : ri I (U u + 1) (57 : Int32) = some (I (U u + 1) 57) := ri_nI (k := 57) (ln_U1 hu) (by decide) (by decide)
theorem wp_57 {I : MI} {u : Nat} {x : Int32} (hu : u ≤ 20) : wi I (U u + 1) (57 : Int32) x = some (uI I (U u + 1) 57 x) := wi_nI (k := 57) (ln_U1 hu) (by decide) (by decide)
theorem rp_58 {I : MI} {u : Nat} (hu : u ≤ 20) : ri I (U u + 1) (58 : Int32) = some (I (U u + 1) 58) := ri_nI (k := 58) (ln_U1 hu) (by decide) (by decide)
theorem wp_58 {I : MI} {u : Nat} {x : Int32} (hu : u ≤ 20) : wi I (U u + 1) (58 : Int32) x = some (uI I (U u + 1) 58 x) := wi_nI (k := 58) (ln_U1 hu) (by decide) (by decide)
theorem rp_59 {I : MI} {u : Nat} (hu : u ≤ 20) : ri I (U u + 1) (59 : Int32) = some (I (U u + 1) 59) := ri_nI (k := 59) (ln_U1 hu) (by decide) (by decide)
theorem wp_59 {I : MI} {u : Nat} {x : Int32} (hu : u ≤ 20) : wi I (U u + 1) (59 : Int32) x = some (uI I (U u + 1) 59 x) := wi_nI (k := 59) (ln_U1 hu) (by decide) (by decide)
theorem rp_60 {I : MI} {u : Nat} (hu : u ≤ 20) : ri I (U u + 1) (60 : Int32) = some (I (U u + 1) 60) := ri_nI (k := 60) (ln_U1 hu) (by decide) (by decide)
theorem wp_60 {I : MI} {u : Nat} {x : Int32} (hu : u ≤ 20) : wi I (U u + 1) (60 : Int32) x = some (uI I (U u + 1) 60 x) := wi_nI (k := 60) (ln_U1 hu) (by decide) (by decide)
theorem rp_61 {I : MI} {u : Nat} (hu : u ≤ 20) : ri I (U u + 1) (61 : Int32) = some (I (U u + 1) 61) := ri_nI (k := 61) (ln_U1 hu) (by decide) (by decide)
theorem wp_61 {I : MI} {u : Nat} {x : Int32} (hu : u ≤ 20) : wi I (U u + 1) (61 : Int32) x = some (uI I (U u + 1) 61 x) := wi_nI (k := 61) (ln_U1 hu) (by decide) (by decide)
theorem rp_62 {I : MI} {u : Nat} (hu : u ≤ 20) : ri I (U u + 1) (62 : Int32) = some (I (U u + 1) 62) := ri_nI (k := 62) (ln_U1 hu) (by decide) (by decide)
theorem wp_62 {I : MI} {u : Nat} {x : Int32} (hu : u ≤ 20) : wi I (U u + 1) (62 : Int32) x = some (uI I (U u + 1) 62 x) := wi_nI (k := 62) (ln_U1 hu) (by decide) (by decide)
theorem rp_63 {I : MI} {u : Nat} (hu : u ≤ 20) : ri I (U u + 1) (63 : Int32) = some (I (U u + 1) 63) := ri_nI (k := 63) (ln_U1 hu) (by decide) (by decide)
theorem wp_63 {I : MI} {u : Nat} {x : Int32} (hu : u ≤ 20) : wi I (U u + 1) (63 : Int32) x = some (uI I (U u + 1) 63 x) := wi_nI (k := 63) (ln_U1 hu) (by decide) (by decide)
theorem rp_64 {I : MI} {u : Nat} (hu : u ≤ 20) : ri I (U u + 1) (64 : Int32) = some (I (U u + 1) 64) := ri_nI (k := 64) (ln_U1 hu) (by decide) (by decide)
theorem wp_64 {I : MI} {u : Nat} {x : Int32} (hu : u ≤ 20) : wi I (U u + 1) (64 : Int32) x = some (uI I (U u + 1) 64 x) := wi_nI (k := 64) (ln_U1 hu) (by decide) (by decide)
