/-! T3: a unit is made: both loops over its layers -/
def layN (u c : Nat) (X : Nat → Int32) (l : Nat) (S : MI) : MI := match l with
  | 0 => lay_0 u c X S
  | 1 => lay_1 u c X S
  | 2 => lay_2 u c X S
  | 3 => lay_3 u c X S
  | 4 => lay_4 u c X S
  | 5 => lay_5 u c X S
  | 6 => lay_6 u c X S
  | 7 => lay_7 u c X S
  | 8 => lay_8 u c X S
  | 9 => lay_9 u c X S
  | 10 => lay_10 u c X S
  | 11 => lay_11 u c X S
  | 12 => lay_12 u c X S
  | 13 => lay_13 u c X S
  | 14 => lay_14 u c X S
  | 15 => lay_15 u c X S
  | 16 => lay_16 u c X S
  | 17 => lay_17 u c X S
  | 18 => lay_18 u c X S
  | 19 => lay_19 u c X S
  | 20 => lay_20 u c X S
  | 21 => lay_21 u c X S
  | 22 => lay_22 u c X S
  | 23 => lay_23 u c X S
  | 24 => lay_24 u c X S
  | 25 => lay_25 u c X S
  | 26 => lay_26 u c X S
  | 27 => lay_27 u c X S
  | 28 => lay_28 u c X S
  | _ => S
def loC (c i : Nat) : Nat := if i = 0 then 0 else (chn c).getD (i - 1) 0 + 1
theorem chn_step : ∀ c, c < 29 → ∀ i, i < (chn c).length → loC c i ≤ (chn c).getD i 0 ∧ isL c ((chn c).getD i 0) = true ∧ (chn c).getD i 0 < 29 ∧ loC c (i + 1) = (chn c).getD i 0 + 1 ∧ ∀ t, t < 29 → loC c i ≤ t → t < (chn c).getD i 0 → isL c t = false := by
  intro c hc i hi
  have hl := chn_len c hc
  have h1 := (show ∀ c, c < 29 → ∀ i, i < 5 → i < (chn c).length → loC c i ≤ (chn c).getD i 0 ∧ isL c ((chn c).getD i 0) = true ∧ (chn c).getD i 0 < 29 ∧ loC c (i + 1) = (chn c).getD i 0 + 1 by decide +kernel) c hc i (by omega) hi
  have h2 := (show ∀ c, c < 29 → ∀ i, i < 5 → ∀ t, t < 29 → (i < (chn c).length ∧ loC c i ≤ t ∧ t < (chn c).getD i 0) → isL c t = false by decide +kernel) c hc i (by omega)
  exact ⟨h1.1, h1.2.1, h1.2.2.1, h1.2.2.2, fun t ht q1 q2 => h2 t ht ⟨hi, q1, q2⟩⟩
theorem chn_end : ∀ c, c < 29 → loC c (chn c).length ≤ 29 ∧ 0 < (chn c).length ∧ ∀ t, t < 29 → isL c t = true → t < loC c (chn c).length := by decide +kernel
theorem INV.hp {cd : Nat → Nat} {u : Nat} {X : Nat → Int32} {lo Kd Ka Kn : Nat} {S : MI} (h : INV cd u X lo Kd Ka Kn S) (h0 : 0 < lo) : HP u (cd u) S := ⟨h.2.1 h0, h.2.2.1, h.2.2.2.1, h.2.2.2.2.1⟩
theorem INV.hp0 {cd : Nat → Nat} {u : Nat} {X : Nat → Int32} {lo Kd Ka Kn : Nat} {S : MI} (h : INV cd u X lo Kd Ka Kn S) : HP u (cd u) (uI S 0 1 (nI u)) := by
  refine ⟨uI_same, fun q => ?_, fun q => ?_, fun q => ?_⟩
  · rw [uI_at (by omega)]; exact h.2.2.1 q
  · rw [uI_at (by omega)]; exact h.2.2.2.1 q
  · rw [uI_at (by omega)]; exact h.2.2.2.2.1 q
theorem INV.kn {cd : Nat → Nat} {u : Nat} {X : Nat → Int32} {lo Kd Ka Kn : Nat} {S : MI} (h : INV cd u X lo Kd Ka Kn S) (hk : Kn + lo < 2 ^ 20) : KN S := by
  obtain ⟨k, k1, k2⟩ := h.2.2.2.2.2.2.2.2.1
  exact ⟨k, by omega, k2⟩
theorem INV.an {cd : Nat → Nat} {u : Nat} {X : Nat → Int32} {lo Kd Ka Kn : Nat} {S : MI} (h : INV cd u X lo Kd Ka Kn S) : AN (cd u) S := ⟨h.1, (h.2.2.2.2.2.2.2.2.2.2.2.2.2.2.2.2.2.2.1).mono (by decide), (h.2.2.2.2.2.2.2.2.2.2.2.2.2.2.2.2.2.2.2.1).mono (by decide)⟩
theorem INV.jb {cd : Nat → Nat} {u : Nat} {X : Nat → Int32} {lo Kd Ka Kn : Nat} {S : MI} (h : INV cd u X lo Kd Ka Kn S) (hk : Kd + lo ≤ 100000) : JB S := ⟨(h.2.2.2.2.2.1).mono hk, (h.2.2.2.2.2.2.2.2.2.1).mono (by decide), (h.2.2.2.2.2.2.2.2.2.2.1).mono (by decide), (h.2.2.2.2.2.2.2.2.2.2.2.2.2.2.2.2.2.2.1).mono (by decide), (h.2.2.2.2.2.2.2.2.2.2.2.2.1).mono (by decide), (h.2.2.2.2.2.2.2.2.2.2.2.2.2.1).mono (by decide)⟩
section P11
variable {N n u i k : Nat} {cd : Nat → Nat} {pb : Nat} {L : ML} {S c0 m0 : MI} {X x y : Nat → Int32}
theorem dC_0 (hN : 5000 ≤ N) (hu : u ≤ 20) (hc : cd u < 29) (hkn : kin (cd u)) (hil : isL (cd u) 0 = true) (h7 : c0 (U u) 7 = nI (chn (cd u)).length) (hl : ∀ i, i < (chn (cd u)).length → c0 (U u + 2) i = nI ((chn (cd u)).getD i 0)) (hX : ∀ i, i < mny (cd u) → c0 (U u) (4 + i) = X i) (hp : HP u (cd u) (uI S 0 1 (nI u))) (hk : KN S) (hi : i < (chn (cd u)).length) (e : (chn (cd u)).getD i 0 = 0) : LF_X10_make_7 N (k + 1) 1 (U u) (nI i) (cS u S c0) L (GRf pb) = LF_X10_make_7 N k 1 (U u) (nI (i + 1)) (cS u (lay_0 u (cd u) X S) c0) L (GRf pb) := by
  have eu : U u = 58 + 4 * u := rfl
  have h5 := chn_len (cd u) hc
  have e7 : cS u S c0 (U u) 7 = nI (chn (cd u)).length := by rw [cS_o (by omega) (by omega) (by omega)]; exact h7
  have z7 : (nI (chn (cd u)).length ≤ nI i) = False := eq_false (nI_ge hi (by omega))
  have z5 : (Int32.ofNat 5 ≤ nI i) = False := eq_false (nI_ge (b := 5) (by omega) (by decide))
  have r : ri (cS u S c0) (U u + 2) (nI i) = some (0 : Int32) := by
    rw [ri_nI (ln_U2 hu) (show i < 5 by omega) (by decide), cS_o (by omega) (by omega) (by omega), hl i hi, e]; rfl
  have mk := mkC_0 (N := N) (pb := pb) (L := L) (S := S) hp hN hu hc hkn hil h7 hl hX hk
  simp (decide := true) only [LF_X10_make_7, e7, z7, if_false, if_true, rf_U1 hu, bse, ln_U2 hu, z5, r, mk, b1e, wre, nI_1]
theorem dC_1 (hN : 5000 ≤ N) (hu : u ≤ 20) (hc : cd u < 29) (hkn : kin (cd u)) (hil : isL (cd u) 1 = true) (h7 : c0 (U u) 7 = nI (chn (cd u)).length) (hl : ∀ i, i < (chn (cd u)).length → c0 (U u + 2) i = nI ((chn (cd u)).getD i 0)) (hX : ∀ i, i < mny (cd u) → c0 (U u) (4 + i) = X i) (hp : HP u (cd u) S) (hk : KN S) (hi : i < (chn (cd u)).length) (e : (chn (cd u)).getD i 0 = 1) : LF_X10_make_7 N (k + 1) 1 (U u) (nI i) (cS u S c0) L (GRf pb) = LF_X10_make_7 N k 1 (U u) (nI (i + 1)) (cS u (lay_1 u (cd u) X S) c0) L (GRf pb) := by
  have eu : U u = 58 + 4 * u := rfl
  have h5 := chn_len (cd u) hc
  have e7 : cS u S c0 (U u) 7 = nI (chn (cd u)).length := by rw [cS_o (by omega) (by omega) (by omega)]; exact h7
  have z7 : (nI (chn (cd u)).length ≤ nI i) = False := eq_false (nI_ge hi (by omega))
  have z5 : (Int32.ofNat 5 ≤ nI i) = False := eq_false (nI_ge (b := 5) (by omega) (by decide))
  have r : ri (cS u S c0) (U u + 2) (nI i) = some (1 : Int32) := by
    rw [ri_nI (ln_U2 hu) (show i < 5 by omega) (by decide), cS_o (by omega) (by omega) (by omega), hl i hi, e]; rfl
  have mk := mkC_1 (N := N) (pb := pb) (L := L) (S := S) hN hu hc hkn hil h7 hl hX hp hk
  simp (decide := true) only [LF_X10_make_7, e7, z7, if_false, if_true, rf_U1 hu, bse, ln_U2 hu, z5, r, mk, b1e, wre, nI_1]
theorem dC_2 (hN : 5000 ≤ N) (hu : u ≤ 20) (hc : cd u < 29) (hkn : kin (cd u)) (hil : isL (cd u) 2 = true) (h7 : c0 (U u) 7 = nI (chn (cd u)).length) (hl : ∀ i, i < (chn (cd u)).length → c0 (U u + 2) i = nI ((chn (cd u)).getD i 0)) (hX : ∀ i, i < mny (cd u) → c0 (U u) (4 + i) = X i) (hp : HP u (cd u) S) (hk : KN S) (hi : i < (chn (cd u)).length) (e : (chn (cd u)).getD i 0 = 2) : LF_X10_make_7 N (k + 1) 1 (U u) (nI i) (cS u S c0) L (GRf pb) = LF_X10_make_7 N k 1 (U u) (nI (i + 1)) (cS u (lay_2 u (cd u) X S) c0) L (GRf pb) := by
  have eu : U u = 58 + 4 * u := rfl
  have h5 := chn_len (cd u) hc
  have e7 : cS u S c0 (U u) 7 = nI (chn (cd u)).length := by rw [cS_o (by omega) (by omega) (by omega)]; exact h7
  have z7 : (nI (chn (cd u)).length ≤ nI i) = False := eq_false (nI_ge hi (by omega))
  have z5 : (Int32.ofNat 5 ≤ nI i) = False := eq_false (nI_ge (b := 5) (by omega) (by decide))
  have r : ri (cS u S c0) (U u + 2) (nI i) = some (2 : Int32) := by
    rw [ri_nI (ln_U2 hu) (show i < 5 by omega) (by decide), cS_o (by omega) (by omega) (by omega), hl i hi, e]; rfl
  have mk := mkC_2 (N := N) (pb := pb) (L := L) (S := S) hN hu hc hkn hil h7 hl hX hp hk
  simp (decide := true) only [LF_X10_make_7, e7, z7, if_false, if_true, rf_U1 hu, bse, ln_U2 hu, z5, r, mk, b1e, wre, nI_1]
theorem dC_3 (hN : 5000 ≤ N) (hu : u ≤ 20) (hc : cd u < 29) (hkn : kin (cd u)) (hil : isL (cd u) 3 = true) (h7 : c0 (U u) 7 = nI (chn (cd u)).length) (hl : ∀ i, i < (chn (cd u)).length → c0 (U u + 2) i = nI ((chn (cd u)).getD i 0)) (hX : ∀ i, i < mny (cd u) → c0 (U u) (4 + i) = X i) (hp : HP u (cd u) S) (hk : KN S) (hi : i < (chn (cd u)).length) (e : (chn (cd u)).getD i 0 = 3) : LF_X10_make_7 N (k + 1) 1 (U u) (nI i) (cS u S c0) L (GRf pb) = LF_X10_make_7 N k 1 (U u) (nI (i + 1)) (cS u (lay_3 u (cd u) X S) c0) L (GRf pb) := by
  have eu : U u = 58 + 4 * u := rfl
  have h5 := chn_len (cd u) hc
  have e7 : cS u S c0 (U u) 7 = nI (chn (cd u)).length := by rw [cS_o (by omega) (by omega) (by omega)]; exact h7
  have z7 : (nI (chn (cd u)).length ≤ nI i) = False := eq_false (nI_ge hi (by omega))
  have z5 : (Int32.ofNat 5 ≤ nI i) = False := eq_false (nI_ge (b := 5) (by omega) (by decide))
  have r : ri (cS u S c0) (U u + 2) (nI i) = some (3 : Int32) := by
    rw [ri_nI (ln_U2 hu) (show i < 5 by omega) (by decide), cS_o (by omega) (by omega) (by omega), hl i hi, e]; rfl
  have mk := mkC_3 (N := N) (pb := pb) (L := L) (S := S) hN hu hc hkn hil h7 hl hX hp hk
  simp (decide := true) only [LF_X10_make_7, e7, z7, if_false, if_true, rf_U1 hu, bse, ln_U2 hu, z5, r, mk, b1e, wre, nI_1]
theorem dC_4 (hN : 5000 ≤ N) (hu : u ≤ 20) (hc : cd u < 29) (hkn : kin (cd u)) (hil : isL (cd u) 4 = true) (h7 : c0 (U u) 7 = nI (chn (cd u)).length) (hl : ∀ i, i < (chn (cd u)).length → c0 (U u + 2) i = nI ((chn (cd u)).getD i 0)) (hX : ∀ i, i < mny (cd u) → c0 (U u) (4 + i) = X i) (hp : HP u (cd u) S) (hk : KN S) (hi : i < (chn (cd u)).length) (e : (chn (cd u)).getD i 0 = 4) : LF_X10_make_7 N (k + 1) 1 (U u) (nI i) (cS u S c0) L (GRf pb) = LF_X10_make_7 N k 1 (U u) (nI (i + 1)) (cS u (lay_4 u (cd u) X S) c0) L (GRf pb) := by
  have eu : U u = 58 + 4 * u := rfl
  have h5 := chn_len (cd u) hc
  have e7 : cS u S c0 (U u) 7 = nI (chn (cd u)).length := by rw [cS_o (by omega) (by omega) (by omega)]; exact h7
  have z7 : (nI (chn (cd u)).length ≤ nI i) = False := eq_false (nI_ge hi (by omega))
  have z5 : (Int32.ofNat 5 ≤ nI i) = False := eq_false (nI_ge (b := 5) (by omega) (by decide))
  have r : ri (cS u S c0) (U u + 2) (nI i) = some (4 : Int32) := by
    rw [ri_nI (ln_U2 hu) (show i < 5 by omega) (by decide), cS_o (by omega) (by omega) (by omega), hl i hi, e]; rfl
  have mk := mkC_4 (N := N) (pb := pb) (L := L) (S := S) hN hu hc hkn hil h7 hl hX hp hk
  simp (decide := true) only [LF_X10_make_7, e7, z7, if_false, if_true, rf_U1 hu, bse, ln_U2 hu, z5, r, mk, b1e, wre, nI_1]
theorem dC_5 (hN : 5000 ≤ N) (hu : u ≤ 20) (hc : cd u < 29) (hkn : kin (cd u)) (hil : isL (cd u) 5 = true) (h7 : c0 (U u) 7 = nI (chn (cd u)).length) (hl : ∀ i, i < (chn (cd u)).length → c0 (U u + 2) i = nI ((chn (cd u)).getD i 0)) (hX : ∀ i, i < mny (cd u) → c0 (U u) (4 + i) = X i) (hp : HP u (cd u) S) (hk : KN S) (hi : i < (chn (cd u)).length) (e : (chn (cd u)).getD i 0 = 5) : LF_X10_make_7 N (k + 1) 1 (U u) (nI i) (cS u S c0) L (GRf pb) = LF_X10_make_7 N k 1 (U u) (nI (i + 1)) (cS u (lay_5 u (cd u) X S) c0) L (GRf pb) := by
  have eu : U u = 58 + 4 * u := rfl
  have h5 := chn_len (cd u) hc
  have e7 : cS u S c0 (U u) 7 = nI (chn (cd u)).length := by rw [cS_o (by omega) (by omega) (by omega)]; exact h7
  have z7 : (nI (chn (cd u)).length ≤ nI i) = False := eq_false (nI_ge hi (by omega))
  have z5 : (Int32.ofNat 5 ≤ nI i) = False := eq_false (nI_ge (b := 5) (by omega) (by decide))
  have r : ri (cS u S c0) (U u + 2) (nI i) = some (5 : Int32) := by
    rw [ri_nI (ln_U2 hu) (show i < 5 by omega) (by decide), cS_o (by omega) (by omega) (by omega), hl i hi, e]; rfl
  have mk := mkC_5 (N := N) (pb := pb) (L := L) (S := S) hN hu hc hkn hil h7 hl hX hp hk
  simp (decide := true) only [LF_X10_make_7, e7, z7, if_false, if_true, rf_U1 hu, bse, ln_U2 hu, z5, r, mk, b1e, wre, nI_1]
theorem dC_6 (hN : 5000 ≤ N) (hu : u ≤ 20) (hc : cd u < 29) (hkn : kin (cd u)) (hil : isL (cd u) 6 = true) (h7 : c0 (U u) 7 = nI (chn (cd u)).length) (hl : ∀ i, i < (chn (cd u)).length → c0 (U u + 2) i = nI ((chn (cd u)).getD i 0)) (hX : ∀ i, i < mny (cd u) → c0 (U u) (4 + i) = X i) (hp : HP u (cd u) S) (hk : KN S) (hi : i < (chn (cd u)).length) (e : (chn (cd u)).getD i 0 = 6) : LF_X10_make_7 N (k + 1) 1 (U u) (nI i) (cS u S c0) L (GRf pb) = LF_X10_make_7 N k 1 (U u) (nI (i + 1)) (cS u (lay_6 u (cd u) X S) c0) L (GRf pb) := by
  have eu : U u = 58 + 4 * u := rfl
  have h5 := chn_len (cd u) hc
  have e7 : cS u S c0 (U u) 7 = nI (chn (cd u)).length := by rw [cS_o (by omega) (by omega) (by omega)]; exact h7
  have z7 : (nI (chn (cd u)).length ≤ nI i) = False := eq_false (nI_ge hi (by omega))
  have z5 : (Int32.ofNat 5 ≤ nI i) = False := eq_false (nI_ge (b := 5) (by omega) (by decide))
  have r : ri (cS u S c0) (U u + 2) (nI i) = some (6 : Int32) := by
    rw [ri_nI (ln_U2 hu) (show i < 5 by omega) (by decide), cS_o (by omega) (by omega) (by omega), hl i hi, e]; rfl
  have mk := mkC_6 (N := N) (pb := pb) (L := L) (S := S) hN hu hc hkn hil h7 hl hX hp hk
  simp (decide := true) only [LF_X10_make_7, e7, z7, if_false, if_true, rf_U1 hu, bse, ln_U2 hu, z5, r, mk, b1e, wre, nI_1]
theorem dC_7 (hN : 5000 ≤ N) (hu : u ≤ 20) (hc : cd u < 29) (hkn : kin (cd u)) (hil : isL (cd u) 7 = true) (h7 : c0 (U u) 7 = nI (chn (cd u)).length) (hl : ∀ i, i < (chn (cd u)).length → c0 (U u + 2) i = nI ((chn (cd u)).getD i 0)) (hX : ∀ i, i < mny (cd u) → c0 (U u) (4 + i) = X i) (hp : HP u (cd u) S) (hk : KN S) (hi : i < (chn (cd u)).length) (e : (chn (cd u)).getD i 0 = 7) : LF_X10_make_7 N (k + 1) 1 (U u) (nI i) (cS u S c0) L (GRf pb) = LF_X10_make_7 N k 1 (U u) (nI (i + 1)) (cS u (lay_7 u (cd u) X S) c0) L (GRf pb) := by
  have eu : U u = 58 + 4 * u := rfl
  have h5 := chn_len (cd u) hc
  have e7 : cS u S c0 (U u) 7 = nI (chn (cd u)).length := by rw [cS_o (by omega) (by omega) (by omega)]; exact h7
  have z7 : (nI (chn (cd u)).length ≤ nI i) = False := eq_false (nI_ge hi (by omega))
  have z5 : (Int32.ofNat 5 ≤ nI i) = False := eq_false (nI_ge (b := 5) (by omega) (by decide))
  have r : ri (cS u S c0) (U u + 2) (nI i) = some (7 : Int32) := by
    rw [ri_nI (ln_U2 hu) (show i < 5 by omega) (by decide), cS_o (by omega) (by omega) (by omega), hl i hi, e]; rfl
  have mk := mkC_7 (N := N) (pb := pb) (L := L) (S := S) hN hu hc hkn hil h7 hl hX hp hk
  simp (decide := true) only [LF_X10_make_7, e7, z7, if_false, if_true, rf_U1 hu, bse, ln_U2 hu, z5, r, mk, b1e, wre, nI_1]
theorem dC_8 (hN : 5000 ≤ N) (hu : u ≤ 20) (hc : cd u < 29) (hkn : kin (cd u)) (hil : isL (cd u) 8 = true) (h7 : c0 (U u) 7 = nI (chn (cd u)).length) (hl : ∀ i, i < (chn (cd u)).length → c0 (U u + 2) i = nI ((chn (cd u)).getD i 0)) (hX : ∀ i, i < mny (cd u) → c0 (U u) (4 + i) = X i) (hp : HP u (cd u) S) (hk : KN S) (hi : i < (chn (cd u)).length) (e : (chn (cd u)).getD i 0 = 8) : LF_X10_make_7 N (k + 1) 1 (U u) (nI i) (cS u S c0) L (GRf pb) = LF_X10_make_7 N k 1 (U u) (nI (i + 1)) (cS u (lay_8 u (cd u) X S) c0) L (GRf pb) := by
  have eu : U u = 58 + 4 * u := rfl
  have h5 := chn_len (cd u) hc
  have e7 : cS u S c0 (U u) 7 = nI (chn (cd u)).length := by rw [cS_o (by omega) (by omega) (by omega)]; exact h7
  have z7 : (nI (chn (cd u)).length ≤ nI i) = False := eq_false (nI_ge hi (by omega))
  have z5 : (Int32.ofNat 5 ≤ nI i) = False := eq_false (nI_ge (b := 5) (by omega) (by decide))
  have r : ri (cS u S c0) (U u + 2) (nI i) = some (8 : Int32) := by
    rw [ri_nI (ln_U2 hu) (show i < 5 by omega) (by decide), cS_o (by omega) (by omega) (by omega), hl i hi, e]; rfl
  have mk := mkC_8 (N := N) (pb := pb) (L := L) (S := S) hN hu hc hkn hil h7 hl hX hp hk
  simp (decide := true) only [LF_X10_make_7, e7, z7, if_false, if_true, rf_U1 hu, bse, ln_U2 hu, z5, r, mk, b1e, wre, nI_1]
theorem dC_9 (hN : 5000 ≤ N) (hu : u ≤ 20) (hc : cd u < 29) (hkn : kin (cd u)) (hil : isL (cd u) 9 = true) (h7 : c0 (U u) 7 = nI (chn (cd u)).length) (hl : ∀ i, i < (chn (cd u)).length → c0 (U u + 2) i = nI ((chn (cd u)).getD i 0)) (hX : ∀ i, i < mny (cd u) → c0 (U u) (4 + i) = X i) (hp : HP u (cd u) S) (hk : KN S) (hi : i < (chn (cd u)).length) (e : (chn (cd u)).getD i 0 = 9) : LF_X10_make_7 N (k + 1) 1 (U u) (nI i) (cS u S c0) L (GRf pb) = LF_X10_make_7 N k 1 (U u) (nI (i + 1)) (cS u (lay_9 u (cd u) X S) c0) L (GRf pb) := by
  have eu : U u = 58 + 4 * u := rfl
  have h5 := chn_len (cd u) hc
  have e7 : cS u S c0 (U u) 7 = nI (chn (cd u)).length := by rw [cS_o (by omega) (by omega) (by omega)]; exact h7
  have z7 : (nI (chn (cd u)).length ≤ nI i) = False := eq_false (nI_ge hi (by omega))
  have z5 : (Int32.ofNat 5 ≤ nI i) = False := eq_false (nI_ge (b := 5) (by omega) (by decide))
  have r : ri (cS u S c0) (U u + 2) (nI i) = some (9 : Int32) := by
    rw [ri_nI (ln_U2 hu) (show i < 5 by omega) (by decide), cS_o (by omega) (by omega) (by omega), hl i hi, e]; rfl
  have mk := mkC_9 (N := N) (pb := pb) (L := L) (S := S) hN hu hc hkn hil h7 hl hX hp hk
  simp (decide := true) only [LF_X10_make_7, e7, z7, if_false, if_true, rf_U1 hu, bse, ln_U2 hu, z5, r, mk, b1e, wre, nI_1]
theorem dC_10 (hN : 5000 ≤ N) (hu : u ≤ 20) (hc : cd u < 29) (hkn : kin (cd u)) (hil : isL (cd u) 10 = true) (h7 : c0 (U u) 7 = nI (chn (cd u)).length) (hl : ∀ i, i < (chn (cd u)).length → c0 (U u + 2) i = nI ((chn (cd u)).getD i 0)) (hX : ∀ i, i < mny (cd u) → c0 (U u) (4 + i) = X i) (hp : HP u (cd u) S) (hk : KN S) (hi : i < (chn (cd u)).length) (e : (chn (cd u)).getD i 0 = 10) : LF_X10_make_7 N (k + 1) 1 (U u) (nI i) (cS u S c0) L (GRf pb) = LF_X10_make_7 N k 1 (U u) (nI (i + 1)) (cS u (lay_10 u (cd u) X S) c0) L (GRf pb) := by
  have eu : U u = 58 + 4 * u := rfl
  have h5 := chn_len (cd u) hc
  have e7 : cS u S c0 (U u) 7 = nI (chn (cd u)).length := by rw [cS_o (by omega) (by omega) (by omega)]; exact h7
  have z7 : (nI (chn (cd u)).length ≤ nI i) = False := eq_false (nI_ge hi (by omega))
  have z5 : (Int32.ofNat 5 ≤ nI i) = False := eq_false (nI_ge (b := 5) (by omega) (by decide))
  have r : ri (cS u S c0) (U u + 2) (nI i) = some (10 : Int32) := by
    rw [ri_nI (ln_U2 hu) (show i < 5 by omega) (by decide), cS_o (by omega) (by omega) (by omega), hl i hi, e]; rfl
  have mk := mkC_10 (N := N) (pb := pb) (L := L) (S := S) hN hu hc hkn hil h7 hl hX hp hk
  simp (decide := true) only [LF_X10_make_7, e7, z7, if_false, if_true, rf_U1 hu, bse, ln_U2 hu, z5, r, mk, b1e, wre, nI_1]
theorem dC_11 (hN : 5000 ≤ N) (hu : u ≤ 20) (hc : cd u < 29) (hkn : kin (cd u)) (hil : isL (cd u) 11 = true) (h7 : c0 (U u) 7 = nI (chn (cd u)).length) (hl : ∀ i, i < (chn (cd u)).length → c0 (U u + 2) i = nI ((chn (cd u)).getD i 0)) (hX : ∀ i, i < mny (cd u) → c0 (U u) (4 + i) = X i) (hp : HP u (cd u) S) (hk : KN S) (hi : i < (chn (cd u)).length) (e : (chn (cd u)).getD i 0 = 11) : LF_X10_make_7 N (k + 1) 1 (U u) (nI i) (cS u S c0) L (GRf pb) = LF_X10_make_7 N k 1 (U u) (nI (i + 1)) (cS u (lay_11 u (cd u) X S) c0) L (GRf pb) := by
  have eu : U u = 58 + 4 * u := rfl
  have h5 := chn_len (cd u) hc
  have e7 : cS u S c0 (U u) 7 = nI (chn (cd u)).length := by rw [cS_o (by omega) (by omega) (by omega)]; exact h7
  have z7 : (nI (chn (cd u)).length ≤ nI i) = False := eq_false (nI_ge hi (by omega))
  have z5 : (Int32.ofNat 5 ≤ nI i) = False := eq_false (nI_ge (b := 5) (by omega) (by decide))
  have r : ri (cS u S c0) (U u + 2) (nI i) = some (11 : Int32) := by
    rw [ri_nI (ln_U2 hu) (show i < 5 by omega) (by decide), cS_o (by omega) (by omega) (by omega), hl i hi, e]; rfl
  have mk := mkC_11 (N := N) (pb := pb) (L := L) (S := S) hN hu hc hkn hil h7 hl hX hp hk
  simp (decide := true) only [LF_X10_make_7, e7, z7, if_false, if_true, rf_U1 hu, bse, ln_U2 hu, z5, r, mk, b1e, wre, nI_1]
theorem dC_12 (hN : 5000 ≤ N) (hu : u ≤ 20) (hc : cd u < 29) (hkn : kin (cd u)) (hil : isL (cd u) 12 = true) (h7 : c0 (U u) 7 = nI (chn (cd u)).length) (hl : ∀ i, i < (chn (cd u)).length → c0 (U u + 2) i = nI ((chn (cd u)).getD i 0)) (hX : ∀ i, i < mny (cd u) → c0 (U u) (4 + i) = X i) (hp : HP u (cd u) S) (hk : KN S) (hi : i < (chn (cd u)).length) (e : (chn (cd u)).getD i 0 = 12) : LF_X10_make_7 N (k + 1) 1 (U u) (nI i) (cS u S c0) L (GRf pb) = LF_X10_make_7 N k 1 (U u) (nI (i + 1)) (cS u (lay_12 u (cd u) X S) c0) L (GRf pb) := by
  have eu : U u = 58 + 4 * u := rfl
  have h5 := chn_len (cd u) hc
  have e7 : cS u S c0 (U u) 7 = nI (chn (cd u)).length := by rw [cS_o (by omega) (by omega) (by omega)]; exact h7
  have z7 : (nI (chn (cd u)).length ≤ nI i) = False := eq_false (nI_ge hi (by omega))
  have z5 : (Int32.ofNat 5 ≤ nI i) = False := eq_false (nI_ge (b := 5) (by omega) (by decide))
  have r : ri (cS u S c0) (U u + 2) (nI i) = some (12 : Int32) := by
    rw [ri_nI (ln_U2 hu) (show i < 5 by omega) (by decide), cS_o (by omega) (by omega) (by omega), hl i hi, e]; rfl
  have mk := mkC_12 (N := N) (pb := pb) (L := L) (S := S) hN hu hc hkn hil h7 hl hX hp hk
  simp (decide := true) only [LF_X10_make_7, e7, z7, if_false, if_true, rf_U1 hu, bse, ln_U2 hu, z5, r, mk, b1e, wre, nI_1]
theorem dC_13 (hN : 5000 ≤ N) (hu : u ≤ 20) (hc : cd u < 29) (hkn : kin (cd u)) (hil : isL (cd u) 13 = true) (h7 : c0 (U u) 7 = nI (chn (cd u)).length) (hl : ∀ i, i < (chn (cd u)).length → c0 (U u + 2) i = nI ((chn (cd u)).getD i 0)) (hX : ∀ i, i < mny (cd u) → c0 (U u) (4 + i) = X i) (hp : HP u (cd u) S) (hk : KN S) (hi : i < (chn (cd u)).length) (e : (chn (cd u)).getD i 0 = 13) : LF_X10_make_7 N (k + 1) 1 (U u) (nI i) (cS u S c0) L (GRf pb) = LF_X10_make_7 N k 1 (U u) (nI (i + 1)) (cS u (lay_13 u (cd u) X S) c0) L (GRf pb) := by
  have eu : U u = 58 + 4 * u := rfl
  have h5 := chn_len (cd u) hc
  have e7 : cS u S c0 (U u) 7 = nI (chn (cd u)).length := by rw [cS_o (by omega) (by omega) (by omega)]; exact h7
  have z7 : (nI (chn (cd u)).length ≤ nI i) = False := eq_false (nI_ge hi (by omega))
  have z5 : (Int32.ofNat 5 ≤ nI i) = False := eq_false (nI_ge (b := 5) (by omega) (by decide))
  have r : ri (cS u S c0) (U u + 2) (nI i) = some (13 : Int32) := by
    rw [ri_nI (ln_U2 hu) (show i < 5 by omega) (by decide), cS_o (by omega) (by omega) (by omega), hl i hi, e]; rfl
  have mk := mkC_13 (N := N) (pb := pb) (L := L) (S := S) hN hu hc hkn hil h7 hl hX hp hk
  simp (decide := true) only [LF_X10_make_7, e7, z7, if_false, if_true, rf_U1 hu, bse, ln_U2 hu, z5, r, mk, b1e, wre, nI_1]
theorem dC_14 (hN : 5000 ≤ N) (hu : u ≤ 20) (hc : cd u < 29) (hkn : kin (cd u)) (hil : isL (cd u) 14 = true) (h7 : c0 (U u) 7 = nI (chn (cd u)).length) (hl : ∀ i, i < (chn (cd u)).length → c0 (U u + 2) i = nI ((chn (cd u)).getD i 0)) (hX : ∀ i, i < mny (cd u) → c0 (U u) (4 + i) = X i) (hp : HP u (cd u) S) (hk : KN S) (hi : i < (chn (cd u)).length) (e : (chn (cd u)).getD i 0 = 14) : LF_X10_make_7 N (k + 1) 1 (U u) (nI i) (cS u S c0) L (GRf pb) = LF_X10_make_7 N k 1 (U u) (nI (i + 1)) (cS u (lay_14 u (cd u) X S) c0) L (GRf pb) := by
  have eu : U u = 58 + 4 * u := rfl
  have h5 := chn_len (cd u) hc
  have e7 : cS u S c0 (U u) 7 = nI (chn (cd u)).length := by rw [cS_o (by omega) (by omega) (by omega)]; exact h7
  have z7 : (nI (chn (cd u)).length ≤ nI i) = False := eq_false (nI_ge hi (by omega))
  have z5 : (Int32.ofNat 5 ≤ nI i) = False := eq_false (nI_ge (b := 5) (by omega) (by decide))
  have r : ri (cS u S c0) (U u + 2) (nI i) = some (14 : Int32) := by
    rw [ri_nI (ln_U2 hu) (show i < 5 by omega) (by decide), cS_o (by omega) (by omega) (by omega), hl i hi, e]; rfl
  have mk := mkC_14 (N := N) (pb := pb) (L := L) (S := S) hN hu hc hkn hil h7 hl hX hp hk
  simp (decide := true) only [LF_X10_make_7, e7, z7, if_false, if_true, rf_U1 hu, bse, ln_U2 hu, z5, r, mk, b1e, wre, nI_1]
theorem dC_15 (hN : 5000 ≤ N) (hu : u ≤ 20) (hc : cd u < 29) (hkn : kin (cd u)) (hil : isL (cd u) 15 = true) (h7 : c0 (U u) 7 = nI (chn (cd u)).length) (hl : ∀ i, i < (chn (cd u)).length → c0 (U u + 2) i = nI ((chn (cd u)).getD i 0)) (hX : ∀ i, i < mny (cd u) → c0 (U u) (4 + i) = X i) (hp : HP u (cd u) S) (hk : KN S) (hi : i < (chn (cd u)).length) (e : (chn (cd u)).getD i 0 = 15) : LF_X10_make_7 N (k + 1) 1 (U u) (nI i) (cS u S c0) L (GRf pb) = LF_X10_make_7 N k 1 (U u) (nI (i + 1)) (cS u (lay_15 u (cd u) X S) c0) L (GRf pb) := by
  have eu : U u = 58 + 4 * u := rfl
  have h5 := chn_len (cd u) hc
  have e7 : cS u S c0 (U u) 7 = nI (chn (cd u)).length := by rw [cS_o (by omega) (by omega) (by omega)]; exact h7
  have z7 : (nI (chn (cd u)).length ≤ nI i) = False := eq_false (nI_ge hi (by omega))
  have z5 : (Int32.ofNat 5 ≤ nI i) = False := eq_false (nI_ge (b := 5) (by omega) (by decide))
  have r : ri (cS u S c0) (U u + 2) (nI i) = some (15 : Int32) := by
    rw [ri_nI (ln_U2 hu) (show i < 5 by omega) (by decide), cS_o (by omega) (by omega) (by omega), hl i hi, e]; rfl
  have mk := mkC_15 (N := N) (pb := pb) (L := L) (S := S) hN hu hc hkn hil h7 hl hX hp hk
  simp (decide := true) only [LF_X10_make_7, e7, z7, if_false, if_true, rf_U1 hu, bse, ln_U2 hu, z5, r, mk, b1e, wre, nI_1]
theorem dC_16 (hN : 5000 ≤ N) (hu : u ≤ 20) (hc : cd u < 29) (hkn : kin (cd u)) (hil : isL (cd u) 16 = true) (h7 : c0 (U u) 7 = nI (chn (cd u)).length) (hl : ∀ i, i < (chn (cd u)).length → c0 (U u + 2) i = nI ((chn (cd u)).getD i 0)) (hX : ∀ i, i < mny (cd u) → c0 (U u) (4 + i) = X i) (hp : HP u (cd u) S) (hk : KN S) (hi : i < (chn (cd u)).length) (e : (chn (cd u)).getD i 0 = 16) : LF_X10_make_7 N (k + 1) 1 (U u) (nI i) (cS u S c0) L (GRf pb) = LF_X10_make_7 N k 1 (U u) (nI (i + 1)) (cS u (lay_16 u (cd u) X S) c0) L (GRf pb) := by
  have eu : U u = 58 + 4 * u := rfl
  have h5 := chn_len (cd u) hc
  have e7 : cS u S c0 (U u) 7 = nI (chn (cd u)).length := by rw [cS_o (by omega) (by omega) (by omega)]; exact h7
  have z7 : (nI (chn (cd u)).length ≤ nI i) = False := eq_false (nI_ge hi (by omega))
  have z5 : (Int32.ofNat 5 ≤ nI i) = False := eq_false (nI_ge (b := 5) (by omega) (by decide))
  have r : ri (cS u S c0) (U u + 2) (nI i) = some (16 : Int32) := by
    rw [ri_nI (ln_U2 hu) (show i < 5 by omega) (by decide), cS_o (by omega) (by omega) (by omega), hl i hi, e]; rfl
  have mk := mkC_16 (N := N) (pb := pb) (L := L) (S := S) hN hu hc hkn hil h7 hl hX hp hk
  simp (decide := true) only [LF_X10_make_7, e7, z7, if_false, if_true, rf_U1 hu, bse, ln_U2 hu, z5, r, mk, b1e, wre, nI_1]
theorem dC_17 (hN : 5000 ≤ N) (hu : u ≤ 20) (hc : cd u < 29) (hkn : kin (cd u)) (hil : isL (cd u) 17 = true) (h7 : c0 (U u) 7 = nI (chn (cd u)).length) (hl : ∀ i, i < (chn (cd u)).length → c0 (U u + 2) i = nI ((chn (cd u)).getD i 0)) (hX : ∀ i, i < mny (cd u) → c0 (U u) (4 + i) = X i) (hp : HP u (cd u) S) (hk : KN S) (hi : i < (chn (cd u)).length) (e : (chn (cd u)).getD i 0 = 17) : LF_X10_make_7 N (k + 1) 1 (U u) (nI i) (cS u S c0) L (GRf pb) = LF_X10_make_7 N k 1 (U u) (nI (i + 1)) (cS u (lay_17 u (cd u) X S) c0) L (GRf pb) := by
  have eu : U u = 58 + 4 * u := rfl
  have h5 := chn_len (cd u) hc
  have e7 : cS u S c0 (U u) 7 = nI (chn (cd u)).length := by rw [cS_o (by omega) (by omega) (by omega)]; exact h7
  have z7 : (nI (chn (cd u)).length ≤ nI i) = False := eq_false (nI_ge hi (by omega))
  have z5 : (Int32.ofNat 5 ≤ nI i) = False := eq_false (nI_ge (b := 5) (by omega) (by decide))
  have r : ri (cS u S c0) (U u + 2) (nI i) = some (17 : Int32) := by
    rw [ri_nI (ln_U2 hu) (show i < 5 by omega) (by decide), cS_o (by omega) (by omega) (by omega), hl i hi, e]; rfl
  have mk := mkC_17 (N := N) (pb := pb) (L := L) (S := S) hN hu hc hkn hil h7 hl hX hp hk
  simp (decide := true) only [LF_X10_make_7, e7, z7, if_false, if_true, rf_U1 hu, bse, ln_U2 hu, z5, r, mk, b1e, wre, nI_1]
theorem dC_18 (hN : 5000 ≤ N) (hu : u ≤ 20) (hc : cd u < 29) (hkn : kin (cd u)) (hil : isL (cd u) 18 = true) (h7 : c0 (U u) 7 = nI (chn (cd u)).length) (hl : ∀ i, i < (chn (cd u)).length → c0 (U u + 2) i = nI ((chn (cd u)).getD i 0)) (hX : ∀ i, i < mny (cd u) → c0 (U u) (4 + i) = X i) (hp : HP u (cd u) S) (hk : KN S) (hi : i < (chn (cd u)).length) (e : (chn (cd u)).getD i 0 = 18) : LF_X10_make_7 N (k + 1) 1 (U u) (nI i) (cS u S c0) L (GRf pb) = LF_X10_make_7 N k 1 (U u) (nI (i + 1)) (cS u (lay_18 u (cd u) X S) c0) L (GRf pb) := by
  have eu : U u = 58 + 4 * u := rfl
  have h5 := chn_len (cd u) hc
  have e7 : cS u S c0 (U u) 7 = nI (chn (cd u)).length := by rw [cS_o (by omega) (by omega) (by omega)]; exact h7
  have z7 : (nI (chn (cd u)).length ≤ nI i) = False := eq_false (nI_ge hi (by omega))
  have z5 : (Int32.ofNat 5 ≤ nI i) = False := eq_false (nI_ge (b := 5) (by omega) (by decide))
  have r : ri (cS u S c0) (U u + 2) (nI i) = some (18 : Int32) := by
    rw [ri_nI (ln_U2 hu) (show i < 5 by omega) (by decide), cS_o (by omega) (by omega) (by omega), hl i hi, e]; rfl
  have mk := mkC_18 (N := N) (pb := pb) (L := L) (S := S) hN hu hc hkn hil h7 hl hX hp hk
  simp (decide := true) only [LF_X10_make_7, e7, z7, if_false, if_true, rf_U1 hu, bse, ln_U2 hu, z5, r, mk, b1e, wre, nI_1]
theorem dC_19 (hN : 5000 ≤ N) (hu : u ≤ 20) (hc : cd u < 29) (hkn : kin (cd u)) (hil : isL (cd u) 19 = true) (h7 : c0 (U u) 7 = nI (chn (cd u)).length) (hl : ∀ i, i < (chn (cd u)).length → c0 (U u + 2) i = nI ((chn (cd u)).getD i 0)) (hX : ∀ i, i < mny (cd u) → c0 (U u) (4 + i) = X i) (hp : HP u (cd u) S) (hk : KN S) (hi : i < (chn (cd u)).length) (e : (chn (cd u)).getD i 0 = 19) : LF_X10_make_7 N (k + 1) 1 (U u) (nI i) (cS u S c0) L (GRf pb) = LF_X10_make_7 N k 1 (U u) (nI (i + 1)) (cS u (lay_19 u (cd u) X S) c0) L (GRf pb) := by
  have eu : U u = 58 + 4 * u := rfl
  have h5 := chn_len (cd u) hc
  have e7 : cS u S c0 (U u) 7 = nI (chn (cd u)).length := by rw [cS_o (by omega) (by omega) (by omega)]; exact h7
  have z7 : (nI (chn (cd u)).length ≤ nI i) = False := eq_false (nI_ge hi (by omega))
  have z5 : (Int32.ofNat 5 ≤ nI i) = False := eq_false (nI_ge (b := 5) (by omega) (by decide))
  have r : ri (cS u S c0) (U u + 2) (nI i) = some (19 : Int32) := by
    rw [ri_nI (ln_U2 hu) (show i < 5 by omega) (by decide), cS_o (by omega) (by omega) (by omega), hl i hi, e]; rfl
  have mk := mkC_19 (N := N) (pb := pb) (L := L) (S := S) hN hu hc hkn hil h7 hl hX hp hk
  simp (decide := true) only [LF_X10_make_7, e7, z7, if_false, if_true, rf_U1 hu, bse, ln_U2 hu, z5, r, mk, b1e, wre, nI_1]
theorem dC_20 (hN : 5000 ≤ N) (hu : u ≤ 20) (hc : cd u < 29) (hkn : kin (cd u)) (hil : isL (cd u) 20 = true) (h7 : c0 (U u) 7 = nI (chn (cd u)).length) (hl : ∀ i, i < (chn (cd u)).length → c0 (U u + 2) i = nI ((chn (cd u)).getD i 0)) (hX : ∀ i, i < mny (cd u) → c0 (U u) (4 + i) = X i) (hp : HP u (cd u) S) (hk : KN S) (hi : i < (chn (cd u)).length) (e : (chn (cd u)).getD i 0 = 20) : LF_X10_make_7 N (k + 1) 1 (U u) (nI i) (cS u S c0) L (GRf pb) = LF_X10_make_7 N k 1 (U u) (nI (i + 1)) (cS u (lay_20 u (cd u) X S) c0) L (GRf pb) := by
  have eu : U u = 58 + 4 * u := rfl
  have h5 := chn_len (cd u) hc
  have e7 : cS u S c0 (U u) 7 = nI (chn (cd u)).length := by rw [cS_o (by omega) (by omega) (by omega)]; exact h7
  have z7 : (nI (chn (cd u)).length ≤ nI i) = False := eq_false (nI_ge hi (by omega))
  have z5 : (Int32.ofNat 5 ≤ nI i) = False := eq_false (nI_ge (b := 5) (by omega) (by decide))
  have r : ri (cS u S c0) (U u + 2) (nI i) = some (20 : Int32) := by
    rw [ri_nI (ln_U2 hu) (show i < 5 by omega) (by decide), cS_o (by omega) (by omega) (by omega), hl i hi, e]; rfl
  have mk := mkC_20 (N := N) (pb := pb) (L := L) (S := S) hN hu hc hkn hil h7 hl hX hp hk
  simp (decide := true) only [LF_X10_make_7, e7, z7, if_false, if_true, rf_U1 hu, bse, ln_U2 hu, z5, r, mk, b1e, wre, nI_1]
theorem dC_21 (hN : 5000 ≤ N) (hu : u ≤ 20) (hc : cd u < 29) (hkn : kin (cd u)) (hil : isL (cd u) 21 = true) (h7 : c0 (U u) 7 = nI (chn (cd u)).length) (hl : ∀ i, i < (chn (cd u)).length → c0 (U u + 2) i = nI ((chn (cd u)).getD i 0)) (hX : ∀ i, i < mny (cd u) → c0 (U u) (4 + i) = X i) (hp : HP u (cd u) S) (hk : KN S) (hi : i < (chn (cd u)).length) (e : (chn (cd u)).getD i 0 = 21) : LF_X10_make_7 N (k + 1) 1 (U u) (nI i) (cS u S c0) L (GRf pb) = LF_X10_make_7 N k 1 (U u) (nI (i + 1)) (cS u (lay_21 u (cd u) X S) c0) L (GRf pb) := by
  have eu : U u = 58 + 4 * u := rfl
  have h5 := chn_len (cd u) hc
  have e7 : cS u S c0 (U u) 7 = nI (chn (cd u)).length := by rw [cS_o (by omega) (by omega) (by omega)]; exact h7
  have z7 : (nI (chn (cd u)).length ≤ nI i) = False := eq_false (nI_ge hi (by omega))
  have z5 : (Int32.ofNat 5 ≤ nI i) = False := eq_false (nI_ge (b := 5) (by omega) (by decide))
  have r : ri (cS u S c0) (U u + 2) (nI i) = some (21 : Int32) := by
    rw [ri_nI (ln_U2 hu) (show i < 5 by omega) (by decide), cS_o (by omega) (by omega) (by omega), hl i hi, e]; rfl
  have mk := mkC_21 (N := N) (pb := pb) (L := L) (S := S) hN hu hc hkn hil h7 hl hX hp hk
  simp (decide := true) only [LF_X10_make_7, e7, z7, if_false, if_true, rf_U1 hu, bse, ln_U2 hu, z5, r, mk, b1e, wre, nI_1]
theorem dC_22 (hN : 5000 ≤ N) (hu : u ≤ 20) (hc : cd u < 29) (hkn : kin (cd u)) (hil : isL (cd u) 22 = true) (h7 : c0 (U u) 7 = nI (chn (cd u)).length) (hl : ∀ i, i < (chn (cd u)).length → c0 (U u + 2) i = nI ((chn (cd u)).getD i 0)) (hX : ∀ i, i < mny (cd u) → c0 (U u) (4 + i) = X i) (hp : HP u (cd u) S) (hk : KN S) (hi : i < (chn (cd u)).length) (e : (chn (cd u)).getD i 0 = 22) : LF_X10_make_7 N (k + 1) 1 (U u) (nI i) (cS u S c0) L (GRf pb) = LF_X10_make_7 N k 1 (U u) (nI (i + 1)) (cS u (lay_22 u (cd u) X S) c0) L (GRf pb) := by
  have eu : U u = 58 + 4 * u := rfl
  have h5 := chn_len (cd u) hc
  have e7 : cS u S c0 (U u) 7 = nI (chn (cd u)).length := by rw [cS_o (by omega) (by omega) (by omega)]; exact h7
  have z7 : (nI (chn (cd u)).length ≤ nI i) = False := eq_false (nI_ge hi (by omega))
  have z5 : (Int32.ofNat 5 ≤ nI i) = False := eq_false (nI_ge (b := 5) (by omega) (by decide))
  have r : ri (cS u S c0) (U u + 2) (nI i) = some (22 : Int32) := by
    rw [ri_nI (ln_U2 hu) (show i < 5 by omega) (by decide), cS_o (by omega) (by omega) (by omega), hl i hi, e]; rfl
  have mk := mkC_22 (N := N) (pb := pb) (L := L) (S := S) hN hu hc hkn hil h7 hl hX hp hk
  simp (decide := true) only [LF_X10_make_7, e7, z7, if_false, if_true, rf_U1 hu, bse, ln_U2 hu, z5, r, mk, b1e, wre, nI_1]
theorem dC_23 (hN : 5000 ≤ N) (hu : u ≤ 20) (hc : cd u < 29) (hkn : kin (cd u)) (hil : isL (cd u) 23 = true) (h7 : c0 (U u) 7 = nI (chn (cd u)).length) (hl : ∀ i, i < (chn (cd u)).length → c0 (U u + 2) i = nI ((chn (cd u)).getD i 0)) (hX : ∀ i, i < mny (cd u) → c0 (U u) (4 + i) = X i) (hp : HP u (cd u) S) (hk : KN S) (hi : i < (chn (cd u)).length) (e : (chn (cd u)).getD i 0 = 23) : LF_X10_make_7 N (k + 1) 1 (U u) (nI i) (cS u S c0) L (GRf pb) = LF_X10_make_7 N k 1 (U u) (nI (i + 1)) (cS u (lay_23 u (cd u) X S) c0) L (GRf pb) := by
  have eu : U u = 58 + 4 * u := rfl
  have h5 := chn_len (cd u) hc
  have e7 : cS u S c0 (U u) 7 = nI (chn (cd u)).length := by rw [cS_o (by omega) (by omega) (by omega)]; exact h7
  have z7 : (nI (chn (cd u)).length ≤ nI i) = False := eq_false (nI_ge hi (by omega))
  have z5 : (Int32.ofNat 5 ≤ nI i) = False := eq_false (nI_ge (b := 5) (by omega) (by decide))
  have r : ri (cS u S c0) (U u + 2) (nI i) = some (23 : Int32) := by
    rw [ri_nI (ln_U2 hu) (show i < 5 by omega) (by decide), cS_o (by omega) (by omega) (by omega), hl i hi, e]; rfl
  have mk := mkC_23 (N := N) (pb := pb) (L := L) (S := S) hN hu hc hkn hil h7 hl hX hp hk
  simp (decide := true) only [LF_X10_make_7, e7, z7, if_false, if_true, rf_U1 hu, bse, ln_U2 hu, z5, r, mk, b1e, wre, nI_1]
theorem dC_24 (hN : 5000 ≤ N) (hu : u ≤ 20) (hc : cd u < 29) (hkn : kin (cd u)) (hil : isL (cd u) 24 = true) (h7 : c0 (U u) 7 = nI (chn (cd u)).length) (hl : ∀ i, i < (chn (cd u)).length → c0 (U u + 2) i = nI ((chn (cd u)).getD i 0)) (hX : ∀ i, i < mny (cd u) → c0 (U u) (4 + i) = X i) (hp : HP u (cd u) S) (hk : KN S) (hi : i < (chn (cd u)).length) (e : (chn (cd u)).getD i 0 = 24) : LF_X10_make_7 N (k + 1) 1 (U u) (nI i) (cS u S c0) L (GRf pb) = LF_X10_make_7 N k 1 (U u) (nI (i + 1)) (cS u (lay_24 u (cd u) X S) c0) L (GRf pb) := by
  have eu : U u = 58 + 4 * u := rfl
  have h5 := chn_len (cd u) hc
  have e7 : cS u S c0 (U u) 7 = nI (chn (cd u)).length := by rw [cS_o (by omega) (by omega) (by omega)]; exact h7
  have z7 : (nI (chn (cd u)).length ≤ nI i) = False := eq_false (nI_ge hi (by omega))
  have z5 : (Int32.ofNat 5 ≤ nI i) = False := eq_false (nI_ge (b := 5) (by omega) (by decide))
  have r : ri (cS u S c0) (U u + 2) (nI i) = some (24 : Int32) := by
    rw [ri_nI (ln_U2 hu) (show i < 5 by omega) (by decide), cS_o (by omega) (by omega) (by omega), hl i hi, e]; rfl
  have mk := mkC_24 (N := N) (pb := pb) (L := L) (S := S) hN hu hc hkn hil h7 hl hX hp hk
  simp (decide := true) only [LF_X10_make_7, e7, z7, if_false, if_true, rf_U1 hu, bse, ln_U2 hu, z5, r, mk, b1e, wre, nI_1]
theorem dC_25 (hN : 5000 ≤ N) (hu : u ≤ 20) (hc : cd u < 29) (hkn : kin (cd u)) (hil : isL (cd u) 25 = true) (h7 : c0 (U u) 7 = nI (chn (cd u)).length) (hl : ∀ i, i < (chn (cd u)).length → c0 (U u + 2) i = nI ((chn (cd u)).getD i 0)) (hX : ∀ i, i < mny (cd u) → c0 (U u) (4 + i) = X i) (hp : HP u (cd u) S) (hk : KN S) (hi : i < (chn (cd u)).length) (e : (chn (cd u)).getD i 0 = 25) : LF_X10_make_7 N (k + 1) 1 (U u) (nI i) (cS u S c0) L (GRf pb) = LF_X10_make_7 N k 1 (U u) (nI (i + 1)) (cS u (lay_25 u (cd u) X S) c0) L (GRf pb) := by
  have eu : U u = 58 + 4 * u := rfl
  have h5 := chn_len (cd u) hc
  have e7 : cS u S c0 (U u) 7 = nI (chn (cd u)).length := by rw [cS_o (by omega) (by omega) (by omega)]; exact h7
  have z7 : (nI (chn (cd u)).length ≤ nI i) = False := eq_false (nI_ge hi (by omega))
  have z5 : (Int32.ofNat 5 ≤ nI i) = False := eq_false (nI_ge (b := 5) (by omega) (by decide))
  have r : ri (cS u S c0) (U u + 2) (nI i) = some (25 : Int32) := by
    rw [ri_nI (ln_U2 hu) (show i < 5 by omega) (by decide), cS_o (by omega) (by omega) (by omega), hl i hi, e]; rfl
  have mk := mkC_25 (N := N) (pb := pb) (L := L) (S := S) hN hu hc hkn hil h7 hl hX hp hk
  simp (decide := true) only [LF_X10_make_7, e7, z7, if_false, if_true, rf_U1 hu, bse, ln_U2 hu, z5, r, mk, b1e, wre, nI_1]
theorem dC_26 (hN : 5000 ≤ N) (hu : u ≤ 20) (hc : cd u < 29) (hkn : kin (cd u)) (hil : isL (cd u) 26 = true) (h7 : c0 (U u) 7 = nI (chn (cd u)).length) (hl : ∀ i, i < (chn (cd u)).length → c0 (U u + 2) i = nI ((chn (cd u)).getD i 0)) (hX : ∀ i, i < mny (cd u) → c0 (U u) (4 + i) = X i) (hp : HP u (cd u) S) (hk : KN S) (hi : i < (chn (cd u)).length) (e : (chn (cd u)).getD i 0 = 26) : LF_X10_make_7 N (k + 1) 1 (U u) (nI i) (cS u S c0) L (GRf pb) = LF_X10_make_7 N k 1 (U u) (nI (i + 1)) (cS u (lay_26 u (cd u) X S) c0) L (GRf pb) := by
  have eu : U u = 58 + 4 * u := rfl
  have h5 := chn_len (cd u) hc
  have e7 : cS u S c0 (U u) 7 = nI (chn (cd u)).length := by rw [cS_o (by omega) (by omega) (by omega)]; exact h7
  have z7 : (nI (chn (cd u)).length ≤ nI i) = False := eq_false (nI_ge hi (by omega))
  have z5 : (Int32.ofNat 5 ≤ nI i) = False := eq_false (nI_ge (b := 5) (by omega) (by decide))
  have r : ri (cS u S c0) (U u + 2) (nI i) = some (26 : Int32) := by
    rw [ri_nI (ln_U2 hu) (show i < 5 by omega) (by decide), cS_o (by omega) (by omega) (by omega), hl i hi, e]; rfl
  have mk := mkC_26 (N := N) (pb := pb) (L := L) (S := S) hN hu hc hkn hil h7 hl hX hp hk
  simp (decide := true) only [LF_X10_make_7, e7, z7, if_false, if_true, rf_U1 hu, bse, ln_U2 hu, z5, r, mk, b1e, wre, nI_1]
theorem dC_27 (hN : 5000 ≤ N) (hu : u ≤ 20) (hc : cd u < 29) (hkn : kin (cd u)) (hil : isL (cd u) 27 = true) (h7 : c0 (U u) 7 = nI (chn (cd u)).length) (hl : ∀ i, i < (chn (cd u)).length → c0 (U u + 2) i = nI ((chn (cd u)).getD i 0)) (hX : ∀ i, i < mny (cd u) → c0 (U u) (4 + i) = X i) (hp : HP u (cd u) S) (hk : KN S) (hi : i < (chn (cd u)).length) (e : (chn (cd u)).getD i 0 = 27) : LF_X10_make_7 N (k + 1) 1 (U u) (nI i) (cS u S c0) L (GRf pb) = LF_X10_make_7 N k 1 (U u) (nI (i + 1)) (cS u (lay_27 u (cd u) X S) c0) L (GRf pb) := by
  have eu : U u = 58 + 4 * u := rfl
  have h5 := chn_len (cd u) hc
  have e7 : cS u S c0 (U u) 7 = nI (chn (cd u)).length := by rw [cS_o (by omega) (by omega) (by omega)]; exact h7
  have z7 : (nI (chn (cd u)).length ≤ nI i) = False := eq_false (nI_ge hi (by omega))
  have z5 : (Int32.ofNat 5 ≤ nI i) = False := eq_false (nI_ge (b := 5) (by omega) (by decide))
  have r : ri (cS u S c0) (U u + 2) (nI i) = some (27 : Int32) := by
    rw [ri_nI (ln_U2 hu) (show i < 5 by omega) (by decide), cS_o (by omega) (by omega) (by omega), hl i hi, e]; rfl
  have mk := mkC_27 (N := N) (pb := pb) (L := L) (S := S) hN hu hc hkn hil h7 hl hX hp hk
  simp (decide := true) only [LF_X10_make_7, e7, z7, if_false, if_true, rf_U1 hu, bse, ln_U2 hu, z5, r, mk, b1e, wre, nI_1]
theorem dC_28 (hN : 5000 ≤ N) (hu : u ≤ 20) (hc : cd u < 29) (hkn : kin (cd u)) (hil : isL (cd u) 28 = true) (h7 : c0 (U u) 7 = nI (chn (cd u)).length) (hl : ∀ i, i < (chn (cd u)).length → c0 (U u + 2) i = nI ((chn (cd u)).getD i 0)) (hX : ∀ i, i < mny (cd u) → c0 (U u) (4 + i) = X i) (hp : HP u (cd u) S) (hk : KN S) (hi : i < (chn (cd u)).length) (e : (chn (cd u)).getD i 0 = 28) : LF_X10_make_7 N (k + 1) 1 (U u) (nI i) (cS u S c0) L (GRf pb) = LF_X10_make_7 N k 1 (U u) (nI (i + 1)) (cS u (lay_28 u (cd u) X S) c0) L (GRf pb) := by
  have eu : U u = 58 + 4 * u := rfl
  have h5 := chn_len (cd u) hc
  have e7 : cS u S c0 (U u) 7 = nI (chn (cd u)).length := by rw [cS_o (by omega) (by omega) (by omega)]; exact h7
  have z7 : (nI (chn (cd u)).length ≤ nI i) = False := eq_false (nI_ge hi (by omega))
  have z5 : (Int32.ofNat 5 ≤ nI i) = False := eq_false (nI_ge (b := 5) (by omega) (by decide))
  have r : ri (cS u S c0) (U u + 2) (nI i) = some (28 : Int32) := by
    rw [ri_nI (ln_U2 hu) (show i < 5 by omega) (by decide), cS_o (by omega) (by omega) (by omega), hl i hi, e]; rfl
  have mk := mkC_28 (N := N) (pb := pb) (L := L) (S := S) hN hu hc hkn hil h7 hl hX hp hk
  simp (decide := true) only [LF_X10_make_7, e7, z7, if_false, if_true, rf_U1 hu, bse, ln_U2 hu, z5, r, mk, b1e, wre, nI_1]
theorem dM_0 (hN : 5000 ≤ N) (hu : u < 20) (hM : CM m0) (hc : cd u < 29) (an : AN (cd u) S) (hk : KN S) (jb : JB S) (hX : ∀ j, j < 3 → m0 36 (3 * u + j) = X j) (hi : i < (chn (cd u)).length) (e : y i = nI 0) : ∃ x', LF_X12_make_122 N (k + 1) 24 (nI u) (nI (chn (cd u)).length) (nI i) (mS u S m0 x y) L (GRf pb) = LF_X12_make_122 N k 24 (nI u) (nI (chn (cd u)).length) (nI (i + 1)) (mS u (lay_0 u (cd u) X S) m0 x' y) L (GRf pb) := by
  have h5 := chn_len (cd u) hc
  obtain ⟨x', mk⟩ := mkM_0 (N := N) (pb := pb) (L := L) (x := x) (y := y) (X := X) hN hu hM hc an hk jb
  have z7 : (nI (chn (cd u)).length ≤ nI i) = False := eq_false (nI_ge hi (by omega))
  have r : ri (mS u S m0 x y) 42 (nI i) = some (0 : Int32) := by
    rw [ri_nI ln_42 (show i < 6 by omega) (by decide)]
    refine congrArg some ?_
    unfold mS
    rw [if_neg (by decide), if_pos rfl]; exact e
  have m3 : (3 : Int32) * nI u = nI (3 * u) := pk_mul 3 u
  have a1 : nI (3 * u) + 1 = nI (3 * u + 1) := nI_add _ 1
  have a2 : nI (3 * u) + 2 = nI (3 * u + 2) := nI_add _ 2
  have x0 : ri (mS u S m0 x y) 36 (nI (3 * u)) = some (X 0) := by
    rw [ri_nI ln_36 (show 3 * u < 60 by omega) (by decide), mS_o (by omega) (by omega) (by omega) (by omega) (by omega)]; exact congrArg some (hX 0 (by decide))
  have x1 : ri (mS u S m0 x y) 36 (nI (3 * u + 1)) = some (X 1) := by
    rw [ri_nI ln_36 (show 3 * u + 1 < 60 by omega) (by decide), mS_o (by omega) (by omega) (by omega) (by omega) (by omega)]; exact congrArg some (hX 1 (by decide))
  have x2 : ri (mS u S m0 x y) 36 (nI (3 * u + 2)) = some (X 2) := by
    rw [ri_nI ln_36 (show 3 * u + 2 < 60 by omega) (by decide), mS_o (by omega) (by omega) (by omega) (by omega) (by omega)]; exact congrArg some (hX 2 (by decide))
  refine ⟨x', ?_⟩
  simp (decide := true) only [LF_X12_make_122, z7, if_false, if_true, rf_24_33, bse, r, F_X12_makeLayer, ck_24, rf_24_23, m3, a1, a2, x0, x1, x2, mk, b1e, wre, nI_1]
theorem dM_1 (hN : 5000 ≤ N) (hu : u < 20) (hM : CM m0) (hc : cd u < 29) (an : AN (cd u) S) (hk : KN S) (jb : JB S) (hX : ∀ j, j < 3 → m0 36 (3 * u + j) = X j) (hi : i < (chn (cd u)).length) (e : y i = nI 1) : ∃ x', LF_X12_make_122 N (k + 1) 24 (nI u) (nI (chn (cd u)).length) (nI i) (mS u S m0 x y) L (GRf pb) = LF_X12_make_122 N k 24 (nI u) (nI (chn (cd u)).length) (nI (i + 1)) (mS u (lay_1 u (cd u) X S) m0 x' y) L (GRf pb) := by
  have h5 := chn_len (cd u) hc
  obtain ⟨x', mk⟩ := mkM_1 (N := N) (pb := pb) (L := L) (x := x) (y := y) (X := X) hN hu hM hc an hk jb
  have z7 : (nI (chn (cd u)).length ≤ nI i) = False := eq_false (nI_ge hi (by omega))
  have r : ri (mS u S m0 x y) 42 (nI i) = some (1 : Int32) := by
    rw [ri_nI ln_42 (show i < 6 by omega) (by decide)]
    refine congrArg some ?_
    unfold mS
    rw [if_neg (by decide), if_pos rfl]; exact e
  have m3 : (3 : Int32) * nI u = nI (3 * u) := pk_mul 3 u
  have a1 : nI (3 * u) + 1 = nI (3 * u + 1) := nI_add _ 1
  have a2 : nI (3 * u) + 2 = nI (3 * u + 2) := nI_add _ 2
  have x0 : ri (mS u S m0 x y) 36 (nI (3 * u)) = some (X 0) := by
    rw [ri_nI ln_36 (show 3 * u < 60 by omega) (by decide), mS_o (by omega) (by omega) (by omega) (by omega) (by omega)]; exact congrArg some (hX 0 (by decide))
  have x1 : ri (mS u S m0 x y) 36 (nI (3 * u + 1)) = some (X 1) := by
    rw [ri_nI ln_36 (show 3 * u + 1 < 60 by omega) (by decide), mS_o (by omega) (by omega) (by omega) (by omega) (by omega)]; exact congrArg some (hX 1 (by decide))
  have x2 : ri (mS u S m0 x y) 36 (nI (3 * u + 2)) = some (X 2) := by
    rw [ri_nI ln_36 (show 3 * u + 2 < 60 by omega) (by decide), mS_o (by omega) (by omega) (by omega) (by omega) (by omega)]; exact congrArg some (hX 2 (by decide))
  refine ⟨x', ?_⟩
  simp (decide := true) only [LF_X12_make_122, z7, if_false, if_true, rf_24_33, bse, r, F_X12_makeLayer, ck_24, rf_24_23, m3, a1, a2, x0, x1, x2, mk, b1e, wre, nI_1]
theorem dM_2 (hN : 5000 ≤ N) (hu : u < 20) (hM : CM m0) (hc : cd u < 29) (an : AN (cd u) S) (hk : KN S) (jb : JB S) (hX : ∀ j, j < 3 → m0 36 (3 * u + j) = X j) (hi : i < (chn (cd u)).length) (e : y i = nI 2) : ∃ x', LF_X12_make_122 N (k + 1) 24 (nI u) (nI (chn (cd u)).length) (nI i) (mS u S m0 x y) L (GRf pb) = LF_X12_make_122 N k 24 (nI u) (nI (chn (cd u)).length) (nI (i + 1)) (mS u (lay_2 u (cd u) X S) m0 x' y) L (GRf pb) := by
  have h5 := chn_len (cd u) hc
  obtain ⟨x', mk⟩ := mkM_2 (N := N) (pb := pb) (L := L) (x := x) (y := y) (X := X) hN hu hM hc an hk jb
  have z7 : (nI (chn (cd u)).length ≤ nI i) = False := eq_false (nI_ge hi (by omega))
  have r : ri (mS u S m0 x y) 42 (nI i) = some (2 : Int32) := by
    rw [ri_nI ln_42 (show i < 6 by omega) (by decide)]
    refine congrArg some ?_
    unfold mS
    rw [if_neg (by decide), if_pos rfl]; exact e
  have m3 : (3 : Int32) * nI u = nI (3 * u) := pk_mul 3 u
  have a1 : nI (3 * u) + 1 = nI (3 * u + 1) := nI_add _ 1
  have a2 : nI (3 * u) + 2 = nI (3 * u + 2) := nI_add _ 2
  have x0 : ri (mS u S m0 x y) 36 (nI (3 * u)) = some (X 0) := by
    rw [ri_nI ln_36 (show 3 * u < 60 by omega) (by decide), mS_o (by omega) (by omega) (by omega) (by omega) (by omega)]; exact congrArg some (hX 0 (by decide))
  have x1 : ri (mS u S m0 x y) 36 (nI (3 * u + 1)) = some (X 1) := by
    rw [ri_nI ln_36 (show 3 * u + 1 < 60 by omega) (by decide), mS_o (by omega) (by omega) (by omega) (by omega) (by omega)]; exact congrArg some (hX 1 (by decide))
  have x2 : ri (mS u S m0 x y) 36 (nI (3 * u + 2)) = some (X 2) := by
    rw [ri_nI ln_36 (show 3 * u + 2 < 60 by omega) (by decide), mS_o (by omega) (by omega) (by omega) (by omega) (by omega)]; exact congrArg some (hX 2 (by decide))
  refine ⟨x', ?_⟩
  simp (decide := true) only [LF_X12_make_122, z7, if_false, if_true, rf_24_33, bse, r, F_X12_makeLayer, ck_24, rf_24_23, m3, a1, a2, x0, x1, x2, mk, b1e, wre, nI_1]
theorem dM_3 (hN : 5000 ≤ N) (hu : u < 20) (hM : CM m0) (hc : cd u < 29) (an : AN (cd u) S) (hk : KN S) (jb : JB S) (hX : ∀ j, j < 3 → m0 36 (3 * u + j) = X j) (hi : i < (chn (cd u)).length) (e : y i = nI 3) : ∃ x', LF_X12_make_122 N (k + 1) 24 (nI u) (nI (chn (cd u)).length) (nI i) (mS u S m0 x y) L (GRf pb) = LF_X12_make_122 N k 24 (nI u) (nI (chn (cd u)).length) (nI (i + 1)) (mS u (lay_3 u (cd u) X S) m0 x' y) L (GRf pb) := by
  have h5 := chn_len (cd u) hc
  obtain ⟨x', mk⟩ := mkM_3 (N := N) (pb := pb) (L := L) (x := x) (y := y) (X := X) hN hu hM hc an hk jb
  have z7 : (nI (chn (cd u)).length ≤ nI i) = False := eq_false (nI_ge hi (by omega))
  have r : ri (mS u S m0 x y) 42 (nI i) = some (3 : Int32) := by
    rw [ri_nI ln_42 (show i < 6 by omega) (by decide)]
    refine congrArg some ?_
    unfold mS
    rw [if_neg (by decide), if_pos rfl]; exact e
  have m3 : (3 : Int32) * nI u = nI (3 * u) := pk_mul 3 u
  have a1 : nI (3 * u) + 1 = nI (3 * u + 1) := nI_add _ 1
  have a2 : nI (3 * u) + 2 = nI (3 * u + 2) := nI_add _ 2
  have x0 : ri (mS u S m0 x y) 36 (nI (3 * u)) = some (X 0) := by
    rw [ri_nI ln_36 (show 3 * u < 60 by omega) (by decide), mS_o (by omega) (by omega) (by omega) (by omega) (by omega)]; exact congrArg some (hX 0 (by decide))
  have x1 : ri (mS u S m0 x y) 36 (nI (3 * u + 1)) = some (X 1) := by
    rw [ri_nI ln_36 (show 3 * u + 1 < 60 by omega) (by decide), mS_o (by omega) (by omega) (by omega) (by omega) (by omega)]; exact congrArg some (hX 1 (by decide))
  have x2 : ri (mS u S m0 x y) 36 (nI (3 * u + 2)) = some (X 2) := by
    rw [ri_nI ln_36 (show 3 * u + 2 < 60 by omega) (by decide), mS_o (by omega) (by omega) (by omega) (by omega) (by omega)]; exact congrArg some (hX 2 (by decide))
  refine ⟨x', ?_⟩
  simp (decide := true) only [LF_X12_make_122, z7, if_false, if_true, rf_24_33, bse, r, F_X12_makeLayer, ck_24, rf_24_23, m3, a1, a2, x0, x1, x2, mk, b1e, wre, nI_1]
theorem dM_4 (hN : 5000 ≤ N) (hu : u < 20) (hM : CM m0) (hc : cd u < 29) (an : AN (cd u) S) (hk : KN S) (jb : JB S) (hX : ∀ j, j < 3 → m0 36 (3 * u + j) = X j) (hi : i < (chn (cd u)).length) (e : y i = nI 4) : ∃ x', LF_X12_make_122 N (k + 1) 24 (nI u) (nI (chn (cd u)).length) (nI i) (mS u S m0 x y) L (GRf pb) = LF_X12_make_122 N k 24 (nI u) (nI (chn (cd u)).length) (nI (i + 1)) (mS u (lay_4 u (cd u) X S) m0 x' y) L (GRf pb) := by
  have h5 := chn_len (cd u) hc
  obtain ⟨x', mk⟩ := mkM_4 (N := N) (pb := pb) (L := L) (x := x) (y := y) (X := X) hN hu hM hc an hk jb
  have z7 : (nI (chn (cd u)).length ≤ nI i) = False := eq_false (nI_ge hi (by omega))
  have r : ri (mS u S m0 x y) 42 (nI i) = some (4 : Int32) := by
    rw [ri_nI ln_42 (show i < 6 by omega) (by decide)]
    refine congrArg some ?_
    unfold mS
    rw [if_neg (by decide), if_pos rfl]; exact e
  have m3 : (3 : Int32) * nI u = nI (3 * u) := pk_mul 3 u
  have a1 : nI (3 * u) + 1 = nI (3 * u + 1) := nI_add _ 1
  have a2 : nI (3 * u) + 2 = nI (3 * u + 2) := nI_add _ 2
  have x0 : ri (mS u S m0 x y) 36 (nI (3 * u)) = some (X 0) := by
    rw [ri_nI ln_36 (show 3 * u < 60 by omega) (by decide), mS_o (by omega) (by omega) (by omega) (by omega) (by omega)]; exact congrArg some (hX 0 (by decide))
  have x1 : ri (mS u S m0 x y) 36 (nI (3 * u + 1)) = some (X 1) := by
    rw [ri_nI ln_36 (show 3 * u + 1 < 60 by omega) (by decide), mS_o (by omega) (by omega) (by omega) (by omega) (by omega)]; exact congrArg some (hX 1 (by decide))
  have x2 : ri (mS u S m0 x y) 36 (nI (3 * u + 2)) = some (X 2) := by
    rw [ri_nI ln_36 (show 3 * u + 2 < 60 by omega) (by decide), mS_o (by omega) (by omega) (by omega) (by omega) (by omega)]; exact congrArg some (hX 2 (by decide))
  refine ⟨x', ?_⟩
  simp (decide := true) only [LF_X12_make_122, z7, if_false, if_true, rf_24_33, bse, r, F_X12_makeLayer, ck_24, rf_24_23, m3, a1, a2, x0, x1, x2, mk, b1e, wre, nI_1]
theorem dM_5 (hN : 5000 ≤ N) (hu : u < 20) (hM : CM m0) (hc : cd u < 29) (an : AN (cd u) S) (hk : KN S) (jb : JB S) (hX : ∀ j, j < 3 → m0 36 (3 * u + j) = X j) (hi : i < (chn (cd u)).length) (e : y i = nI 5) : ∃ x', LF_X12_make_122 N (k + 1) 24 (nI u) (nI (chn (cd u)).length) (nI i) (mS u S m0 x y) L (GRf pb) = LF_X12_make_122 N k 24 (nI u) (nI (chn (cd u)).length) (nI (i + 1)) (mS u (lay_5 u (cd u) X S) m0 x' y) L (GRf pb) := by
  have h5 := chn_len (cd u) hc
  obtain ⟨x', mk⟩ := mkM_5 (N := N) (pb := pb) (L := L) (x := x) (y := y) (X := X) hN hu hM hc an hk jb
  have z7 : (nI (chn (cd u)).length ≤ nI i) = False := eq_false (nI_ge hi (by omega))
  have r : ri (mS u S m0 x y) 42 (nI i) = some (5 : Int32) := by
    rw [ri_nI ln_42 (show i < 6 by omega) (by decide)]
    refine congrArg some ?_
    unfold mS
    rw [if_neg (by decide), if_pos rfl]; exact e
  have m3 : (3 : Int32) * nI u = nI (3 * u) := pk_mul 3 u
  have a1 : nI (3 * u) + 1 = nI (3 * u + 1) := nI_add _ 1
  have a2 : nI (3 * u) + 2 = nI (3 * u + 2) := nI_add _ 2
  have x0 : ri (mS u S m0 x y) 36 (nI (3 * u)) = some (X 0) := by
    rw [ri_nI ln_36 (show 3 * u < 60 by omega) (by decide), mS_o (by omega) (by omega) (by omega) (by omega) (by omega)]; exact congrArg some (hX 0 (by decide))
  have x1 : ri (mS u S m0 x y) 36 (nI (3 * u + 1)) = some (X 1) := by
    rw [ri_nI ln_36 (show 3 * u + 1 < 60 by omega) (by decide), mS_o (by omega) (by omega) (by omega) (by omega) (by omega)]; exact congrArg some (hX 1 (by decide))
  have x2 : ri (mS u S m0 x y) 36 (nI (3 * u + 2)) = some (X 2) := by
    rw [ri_nI ln_36 (show 3 * u + 2 < 60 by omega) (by decide), mS_o (by omega) (by omega) (by omega) (by omega) (by omega)]; exact congrArg some (hX 2 (by decide))
  refine ⟨x', ?_⟩
  simp (decide := true) only [LF_X12_make_122, z7, if_false, if_true, rf_24_33, bse, r, F_X12_makeLayer, ck_24, rf_24_23, m3, a1, a2, x0, x1, x2, mk, b1e, wre, nI_1]
theorem dM_6 (hN : 5000 ≤ N) (hu : u < 20) (hM : CM m0) (hc : cd u < 29) (an : AN (cd u) S) (hk : KN S) (jb : JB S) (hX : ∀ j, j < 3 → m0 36 (3 * u + j) = X j) (hi : i < (chn (cd u)).length) (e : y i = nI 6) : ∃ x', LF_X12_make_122 N (k + 1) 24 (nI u) (nI (chn (cd u)).length) (nI i) (mS u S m0 x y) L (GRf pb) = LF_X12_make_122 N k 24 (nI u) (nI (chn (cd u)).length) (nI (i + 1)) (mS u (lay_6 u (cd u) X S) m0 x' y) L (GRf pb) := by
  have h5 := chn_len (cd u) hc
  obtain ⟨x', mk⟩ := mkM_6 (N := N) (pb := pb) (L := L) (x := x) (y := y) (X := X) hN hu hM hc an hk jb
  have z7 : (nI (chn (cd u)).length ≤ nI i) = False := eq_false (nI_ge hi (by omega))
  have r : ri (mS u S m0 x y) 42 (nI i) = some (6 : Int32) := by
    rw [ri_nI ln_42 (show i < 6 by omega) (by decide)]
    refine congrArg some ?_
    unfold mS
    rw [if_neg (by decide), if_pos rfl]; exact e
  have m3 : (3 : Int32) * nI u = nI (3 * u) := pk_mul 3 u
  have a1 : nI (3 * u) + 1 = nI (3 * u + 1) := nI_add _ 1
  have a2 : nI (3 * u) + 2 = nI (3 * u + 2) := nI_add _ 2
  have x0 : ri (mS u S m0 x y) 36 (nI (3 * u)) = some (X 0) := by
    rw [ri_nI ln_36 (show 3 * u < 60 by omega) (by decide), mS_o (by omega) (by omega) (by omega) (by omega) (by omega)]; exact congrArg some (hX 0 (by decide))
  have x1 : ri (mS u S m0 x y) 36 (nI (3 * u + 1)) = some (X 1) := by
    rw [ri_nI ln_36 (show 3 * u + 1 < 60 by omega) (by decide), mS_o (by omega) (by omega) (by omega) (by omega) (by omega)]; exact congrArg some (hX 1 (by decide))
  have x2 : ri (mS u S m0 x y) 36 (nI (3 * u + 2)) = some (X 2) := by
    rw [ri_nI ln_36 (show 3 * u + 2 < 60 by omega) (by decide), mS_o (by omega) (by omega) (by omega) (by omega) (by omega)]; exact congrArg some (hX 2 (by decide))
  refine ⟨x', ?_⟩
  simp (decide := true) only [LF_X12_make_122, z7, if_false, if_true, rf_24_33, bse, r, F_X12_makeLayer, ck_24, rf_24_23, m3, a1, a2, x0, x1, x2, mk, b1e, wre, nI_1]
theorem dM_7 (hN : 5000 ≤ N) (hu : u < 20) (hM : CM m0) (hc : cd u < 29) (an : AN (cd u) S) (hk : KN S) (jb : JB S) (hX : ∀ j, j < 3 → m0 36 (3 * u + j) = X j) (hi : i < (chn (cd u)).length) (e : y i = nI 7) : ∃ x', LF_X12_make_122 N (k + 1) 24 (nI u) (nI (chn (cd u)).length) (nI i) (mS u S m0 x y) L (GRf pb) = LF_X12_make_122 N k 24 (nI u) (nI (chn (cd u)).length) (nI (i + 1)) (mS u (lay_7 u (cd u) X S) m0 x' y) L (GRf pb) := by
  have h5 := chn_len (cd u) hc
  obtain ⟨x', mk⟩ := mkM_7 (N := N) (pb := pb) (L := L) (x := x) (y := y) (X := X) hN hu hM hc an hk jb
  have z7 : (nI (chn (cd u)).length ≤ nI i) = False := eq_false (nI_ge hi (by omega))
  have r : ri (mS u S m0 x y) 42 (nI i) = some (7 : Int32) := by
    rw [ri_nI ln_42 (show i < 6 by omega) (by decide)]
    refine congrArg some ?_
    unfold mS
    rw [if_neg (by decide), if_pos rfl]; exact e
  have m3 : (3 : Int32) * nI u = nI (3 * u) := pk_mul 3 u
  have a1 : nI (3 * u) + 1 = nI (3 * u + 1) := nI_add _ 1
  have a2 : nI (3 * u) + 2 = nI (3 * u + 2) := nI_add _ 2
  have x0 : ri (mS u S m0 x y) 36 (nI (3 * u)) = some (X 0) := by
    rw [ri_nI ln_36 (show 3 * u < 60 by omega) (by decide), mS_o (by omega) (by omega) (by omega) (by omega) (by omega)]; exact congrArg some (hX 0 (by decide))
  have x1 : ri (mS u S m0 x y) 36 (nI (3 * u + 1)) = some (X 1) := by
    rw [ri_nI ln_36 (show 3 * u + 1 < 60 by omega) (by decide), mS_o (by omega) (by omega) (by omega) (by omega) (by omega)]; exact congrArg some (hX 1 (by decide))
  have x2 : ri (mS u S m0 x y) 36 (nI (3 * u + 2)) = some (X 2) := by
    rw [ri_nI ln_36 (show 3 * u + 2 < 60 by omega) (by decide), mS_o (by omega) (by omega) (by omega) (by omega) (by omega)]; exact congrArg some (hX 2 (by decide))
  refine ⟨x', ?_⟩
  simp (decide := true) only [LF_X12_make_122, z7, if_false, if_true, rf_24_33, bse, r, F_X12_makeLayer, ck_24, rf_24_23, m3, a1, a2, x0, x1, x2, mk, b1e, wre, nI_1]
theorem dM_8 (hN : 5000 ≤ N) (hu : u < 20) (hM : CM m0) (hc : cd u < 29) (an : AN (cd u) S) (hk : KN S) (jb : JB S) (hX : ∀ j, j < 3 → m0 36 (3 * u + j) = X j) (hi : i < (chn (cd u)).length) (e : y i = nI 8) : ∃ x', LF_X12_make_122 N (k + 1) 24 (nI u) (nI (chn (cd u)).length) (nI i) (mS u S m0 x y) L (GRf pb) = LF_X12_make_122 N k 24 (nI u) (nI (chn (cd u)).length) (nI (i + 1)) (mS u (lay_8 u (cd u) X S) m0 x' y) L (GRf pb) := by
  have h5 := chn_len (cd u) hc
  obtain ⟨x', mk⟩ := mkM_8 (N := N) (pb := pb) (L := L) (x := x) (y := y) (X := X) hN hu hM hc an hk jb
  have z7 : (nI (chn (cd u)).length ≤ nI i) = False := eq_false (nI_ge hi (by omega))
  have r : ri (mS u S m0 x y) 42 (nI i) = some (8 : Int32) := by
    rw [ri_nI ln_42 (show i < 6 by omega) (by decide)]
    refine congrArg some ?_
    unfold mS
    rw [if_neg (by decide), if_pos rfl]; exact e
  have m3 : (3 : Int32) * nI u = nI (3 * u) := pk_mul 3 u
  have a1 : nI (3 * u) + 1 = nI (3 * u + 1) := nI_add _ 1
  have a2 : nI (3 * u) + 2 = nI (3 * u + 2) := nI_add _ 2
  have x0 : ri (mS u S m0 x y) 36 (nI (3 * u)) = some (X 0) := by
    rw [ri_nI ln_36 (show 3 * u < 60 by omega) (by decide), mS_o (by omega) (by omega) (by omega) (by omega) (by omega)]; exact congrArg some (hX 0 (by decide))
  have x1 : ri (mS u S m0 x y) 36 (nI (3 * u + 1)) = some (X 1) := by
    rw [ri_nI ln_36 (show 3 * u + 1 < 60 by omega) (by decide), mS_o (by omega) (by omega) (by omega) (by omega) (by omega)]; exact congrArg some (hX 1 (by decide))
  have x2 : ri (mS u S m0 x y) 36 (nI (3 * u + 2)) = some (X 2) := by
    rw [ri_nI ln_36 (show 3 * u + 2 < 60 by omega) (by decide), mS_o (by omega) (by omega) (by omega) (by omega) (by omega)]; exact congrArg some (hX 2 (by decide))
  refine ⟨x', ?_⟩
  simp (decide := true) only [LF_X12_make_122, z7, if_false, if_true, rf_24_33, bse, r, F_X12_makeLayer, ck_24, rf_24_23, m3, a1, a2, x0, x1, x2, mk, b1e, wre, nI_1]
theorem dM_9 (hN : 5000 ≤ N) (hu : u < 20) (hM : CM m0) (hc : cd u < 29) (an : AN (cd u) S) (hk : KN S) (jb : JB S) (hX : ∀ j, j < 3 → m0 36 (3 * u + j) = X j) (hi : i < (chn (cd u)).length) (e : y i = nI 9) : ∃ x', LF_X12_make_122 N (k + 1) 24 (nI u) (nI (chn (cd u)).length) (nI i) (mS u S m0 x y) L (GRf pb) = LF_X12_make_122 N k 24 (nI u) (nI (chn (cd u)).length) (nI (i + 1)) (mS u (lay_9 u (cd u) X S) m0 x' y) L (GRf pb) := by
  have h5 := chn_len (cd u) hc
  obtain ⟨x', mk⟩ := mkM_9 (N := N) (pb := pb) (L := L) (x := x) (y := y) (X := X) hN hu hM hc an hk jb
  have z7 : (nI (chn (cd u)).length ≤ nI i) = False := eq_false (nI_ge hi (by omega))
  have r : ri (mS u S m0 x y) 42 (nI i) = some (9 : Int32) := by
    rw [ri_nI ln_42 (show i < 6 by omega) (by decide)]
    refine congrArg some ?_
    unfold mS
    rw [if_neg (by decide), if_pos rfl]; exact e
  have m3 : (3 : Int32) * nI u = nI (3 * u) := pk_mul 3 u
  have a1 : nI (3 * u) + 1 = nI (3 * u + 1) := nI_add _ 1
  have a2 : nI (3 * u) + 2 = nI (3 * u + 2) := nI_add _ 2
  have x0 : ri (mS u S m0 x y) 36 (nI (3 * u)) = some (X 0) := by
    rw [ri_nI ln_36 (show 3 * u < 60 by omega) (by decide), mS_o (by omega) (by omega) (by omega) (by omega) (by omega)]; exact congrArg some (hX 0 (by decide))
  have x1 : ri (mS u S m0 x y) 36 (nI (3 * u + 1)) = some (X 1) := by
    rw [ri_nI ln_36 (show 3 * u + 1 < 60 by omega) (by decide), mS_o (by omega) (by omega) (by omega) (by omega) (by omega)]; exact congrArg some (hX 1 (by decide))
  have x2 : ri (mS u S m0 x y) 36 (nI (3 * u + 2)) = some (X 2) := by
    rw [ri_nI ln_36 (show 3 * u + 2 < 60 by omega) (by decide), mS_o (by omega) (by omega) (by omega) (by omega) (by omega)]; exact congrArg some (hX 2 (by decide))
  refine ⟨x', ?_⟩
  simp (decide := true) only [LF_X12_make_122, z7, if_false, if_true, rf_24_33, bse, r, F_X12_makeLayer, ck_24, rf_24_23, m3, a1, a2, x0, x1, x2, mk, b1e, wre, nI_1]
theorem dM_10 (hN : 5000 ≤ N) (hu : u < 20) (hM : CM m0) (hc : cd u < 29) (an : AN (cd u) S) (hk : KN S) (jb : JB S) (hX : ∀ j, j < 3 → m0 36 (3 * u + j) = X j) (hi : i < (chn (cd u)).length) (e : y i = nI 10) : ∃ x', LF_X12_make_122 N (k + 1) 24 (nI u) (nI (chn (cd u)).length) (nI i) (mS u S m0 x y) L (GRf pb) = LF_X12_make_122 N k 24 (nI u) (nI (chn (cd u)).length) (nI (i + 1)) (mS u (lay_10 u (cd u) X S) m0 x' y) L (GRf pb) := by
  have h5 := chn_len (cd u) hc
  obtain ⟨x', mk⟩ := mkM_10 (N := N) (pb := pb) (L := L) (x := x) (y := y) (X := X) hN hu hM hc an hk jb
  have z7 : (nI (chn (cd u)).length ≤ nI i) = False := eq_false (nI_ge hi (by omega))
  have r : ri (mS u S m0 x y) 42 (nI i) = some (10 : Int32) := by
    rw [ri_nI ln_42 (show i < 6 by omega) (by decide)]
    refine congrArg some ?_
    unfold mS
    rw [if_neg (by decide), if_pos rfl]; exact e
  have m3 : (3 : Int32) * nI u = nI (3 * u) := pk_mul 3 u
  have a1 : nI (3 * u) + 1 = nI (3 * u + 1) := nI_add _ 1
  have a2 : nI (3 * u) + 2 = nI (3 * u + 2) := nI_add _ 2
  have x0 : ri (mS u S m0 x y) 36 (nI (3 * u)) = some (X 0) := by
    rw [ri_nI ln_36 (show 3 * u < 60 by omega) (by decide), mS_o (by omega) (by omega) (by omega) (by omega) (by omega)]; exact congrArg some (hX 0 (by decide))
  have x1 : ri (mS u S m0 x y) 36 (nI (3 * u + 1)) = some (X 1) := by
    rw [ri_nI ln_36 (show 3 * u + 1 < 60 by omega) (by decide), mS_o (by omega) (by omega) (by omega) (by omega) (by omega)]; exact congrArg some (hX 1 (by decide))
  have x2 : ri (mS u S m0 x y) 36 (nI (3 * u + 2)) = some (X 2) := by
    rw [ri_nI ln_36 (show 3 * u + 2 < 60 by omega) (by decide), mS_o (by omega) (by omega) (by omega) (by omega) (by omega)]; exact congrArg some (hX 2 (by decide))
  refine ⟨x', ?_⟩
  simp (decide := true) only [LF_X12_make_122, z7, if_false, if_true, rf_24_33, bse, r, F_X12_makeLayer, ck_24, rf_24_23, m3, a1, a2, x0, x1, x2, mk, b1e, wre, nI_1]
theorem dM_11 (hN : 5000 ≤ N) (hu : u < 20) (hM : CM m0) (hc : cd u < 29) (an : AN (cd u) S) (hk : KN S) (jb : JB S) (hX : ∀ j, j < 3 → m0 36 (3 * u + j) = X j) (hi : i < (chn (cd u)).length) (e : y i = nI 11) : ∃ x', LF_X12_make_122 N (k + 1) 24 (nI u) (nI (chn (cd u)).length) (nI i) (mS u S m0 x y) L (GRf pb) = LF_X12_make_122 N k 24 (nI u) (nI (chn (cd u)).length) (nI (i + 1)) (mS u (lay_11 u (cd u) X S) m0 x' y) L (GRf pb) := by
  have h5 := chn_len (cd u) hc
  obtain ⟨x', mk⟩ := mkM_11 (N := N) (pb := pb) (L := L) (x := x) (y := y) (X := X) hN hu hM hc an hk jb
  have z7 : (nI (chn (cd u)).length ≤ nI i) = False := eq_false (nI_ge hi (by omega))
  have r : ri (mS u S m0 x y) 42 (nI i) = some (11 : Int32) := by
    rw [ri_nI ln_42 (show i < 6 by omega) (by decide)]
    refine congrArg some ?_
    unfold mS
    rw [if_neg (by decide), if_pos rfl]; exact e
  have m3 : (3 : Int32) * nI u = nI (3 * u) := pk_mul 3 u
  have a1 : nI (3 * u) + 1 = nI (3 * u + 1) := nI_add _ 1
  have a2 : nI (3 * u) + 2 = nI (3 * u + 2) := nI_add _ 2
  have x0 : ri (mS u S m0 x y) 36 (nI (3 * u)) = some (X 0) := by
    rw [ri_nI ln_36 (show 3 * u < 60 by omega) (by decide), mS_o (by omega) (by omega) (by omega) (by omega) (by omega)]; exact congrArg some (hX 0 (by decide))
  have x1 : ri (mS u S m0 x y) 36 (nI (3 * u + 1)) = some (X 1) := by
    rw [ri_nI ln_36 (show 3 * u + 1 < 60 by omega) (by decide), mS_o (by omega) (by omega) (by omega) (by omega) (by omega)]; exact congrArg some (hX 1 (by decide))
  have x2 : ri (mS u S m0 x y) 36 (nI (3 * u + 2)) = some (X 2) := by
    rw [ri_nI ln_36 (show 3 * u + 2 < 60 by omega) (by decide), mS_o (by omega) (by omega) (by omega) (by omega) (by omega)]; exact congrArg some (hX 2 (by decide))
  refine ⟨x', ?_⟩
  simp (decide := true) only [LF_X12_make_122, z7, if_false, if_true, rf_24_33, bse, r, F_X12_makeLayer, ck_24, rf_24_23, m3, a1, a2, x0, x1, x2, mk, b1e, wre, nI_1]
theorem dM_12 (hN : 5000 ≤ N) (hu : u < 20) (hM : CM m0) (hc : cd u < 29) (an : AN (cd u) S) (hk : KN S) (jb : JB S) (hX : ∀ j, j < 3 → m0 36 (3 * u + j) = X j) (hi : i < (chn (cd u)).length) (e : y i = nI 12) : ∃ x', LF_X12_make_122 N (k + 1) 24 (nI u) (nI (chn (cd u)).length) (nI i) (mS u S m0 x y) L (GRf pb) = LF_X12_make_122 N k 24 (nI u) (nI (chn (cd u)).length) (nI (i + 1)) (mS u (lay_12 u (cd u) X S) m0 x' y) L (GRf pb) := by
  have h5 := chn_len (cd u) hc
  obtain ⟨x', mk⟩ := mkM_12 (N := N) (pb := pb) (L := L) (x := x) (y := y) (X := X) hN hu hM hc an hk jb
  have z7 : (nI (chn (cd u)).length ≤ nI i) = False := eq_false (nI_ge hi (by omega))
  have r : ri (mS u S m0 x y) 42 (nI i) = some (12 : Int32) := by
    rw [ri_nI ln_42 (show i < 6 by omega) (by decide)]
    refine congrArg some ?_
    unfold mS
    rw [if_neg (by decide), if_pos rfl]; exact e
  have m3 : (3 : Int32) * nI u = nI (3 * u) := pk_mul 3 u
  have a1 : nI (3 * u) + 1 = nI (3 * u + 1) := nI_add _ 1
  have a2 : nI (3 * u) + 2 = nI (3 * u + 2) := nI_add _ 2
  have x0 : ri (mS u S m0 x y) 36 (nI (3 * u)) = some (X 0) := by
    rw [ri_nI ln_36 (show 3 * u < 60 by omega) (by decide), mS_o (by omega) (by omega) (by omega) (by omega) (by omega)]; exact congrArg some (hX 0 (by decide))
  have x1 : ri (mS u S m0 x y) 36 (nI (3 * u + 1)) = some (X 1) := by
    rw [ri_nI ln_36 (show 3 * u + 1 < 60 by omega) (by decide), mS_o (by omega) (by omega) (by omega) (by omega) (by omega)]; exact congrArg some (hX 1 (by decide))
  have x2 : ri (mS u S m0 x y) 36 (nI (3 * u + 2)) = some (X 2) := by
    rw [ri_nI ln_36 (show 3 * u + 2 < 60 by omega) (by decide), mS_o (by omega) (by omega) (by omega) (by omega) (by omega)]; exact congrArg some (hX 2 (by decide))
  refine ⟨x', ?_⟩
  simp (decide := true) only [LF_X12_make_122, z7, if_false, if_true, rf_24_33, bse, r, F_X12_makeLayer, ck_24, rf_24_23, m3, a1, a2, x0, x1, x2, mk, b1e, wre, nI_1]
theorem dM_13 (hN : 5000 ≤ N) (hu : u < 20) (hM : CM m0) (hc : cd u < 29) (an : AN (cd u) S) (hk : KN S) (jb : JB S) (hX : ∀ j, j < 3 → m0 36 (3 * u + j) = X j) (hi : i < (chn (cd u)).length) (e : y i = nI 13) : ∃ x', LF_X12_make_122 N (k + 1) 24 (nI u) (nI (chn (cd u)).length) (nI i) (mS u S m0 x y) L (GRf pb) = LF_X12_make_122 N k 24 (nI u) (nI (chn (cd u)).length) (nI (i + 1)) (mS u (lay_13 u (cd u) X S) m0 x' y) L (GRf pb) := by
  have h5 := chn_len (cd u) hc
  obtain ⟨x', mk⟩ := mkM_13 (N := N) (pb := pb) (L := L) (x := x) (y := y) (X := X) hN hu hM hc an hk jb
  have z7 : (nI (chn (cd u)).length ≤ nI i) = False := eq_false (nI_ge hi (by omega))
  have r : ri (mS u S m0 x y) 42 (nI i) = some (13 : Int32) := by
    rw [ri_nI ln_42 (show i < 6 by omega) (by decide)]
    refine congrArg some ?_
    unfold mS
    rw [if_neg (by decide), if_pos rfl]; exact e
  have m3 : (3 : Int32) * nI u = nI (3 * u) := pk_mul 3 u
  have a1 : nI (3 * u) + 1 = nI (3 * u + 1) := nI_add _ 1
  have a2 : nI (3 * u) + 2 = nI (3 * u + 2) := nI_add _ 2
  have x0 : ri (mS u S m0 x y) 36 (nI (3 * u)) = some (X 0) := by
    rw [ri_nI ln_36 (show 3 * u < 60 by omega) (by decide), mS_o (by omega) (by omega) (by omega) (by omega) (by omega)]; exact congrArg some (hX 0 (by decide))
  have x1 : ri (mS u S m0 x y) 36 (nI (3 * u + 1)) = some (X 1) := by
    rw [ri_nI ln_36 (show 3 * u + 1 < 60 by omega) (by decide), mS_o (by omega) (by omega) (by omega) (by omega) (by omega)]; exact congrArg some (hX 1 (by decide))
  have x2 : ri (mS u S m0 x y) 36 (nI (3 * u + 2)) = some (X 2) := by
    rw [ri_nI ln_36 (show 3 * u + 2 < 60 by omega) (by decide), mS_o (by omega) (by omega) (by omega) (by omega) (by omega)]; exact congrArg some (hX 2 (by decide))
  refine ⟨x', ?_⟩
  simp (decide := true) only [LF_X12_make_122, z7, if_false, if_true, rf_24_33, bse, r, F_X12_makeLayer, ck_24, rf_24_23, m3, a1, a2, x0, x1, x2, mk, b1e, wre, nI_1]
theorem dM_14 (hN : 5000 ≤ N) (hu : u < 20) (hM : CM m0) (hc : cd u < 29) (an : AN (cd u) S) (hk : KN S) (jb : JB S) (hX : ∀ j, j < 3 → m0 36 (3 * u + j) = X j) (hi : i < (chn (cd u)).length) (e : y i = nI 14) : ∃ x', LF_X12_make_122 N (k + 1) 24 (nI u) (nI (chn (cd u)).length) (nI i) (mS u S m0 x y) L (GRf pb) = LF_X12_make_122 N k 24 (nI u) (nI (chn (cd u)).length) (nI (i + 1)) (mS u (lay_14 u (cd u) X S) m0 x' y) L (GRf pb) := by
  have h5 := chn_len (cd u) hc
  obtain ⟨x', mk⟩ := mkM_14 (N := N) (pb := pb) (L := L) (x := x) (y := y) (X := X) hN hu hM hc an hk jb
  have z7 : (nI (chn (cd u)).length ≤ nI i) = False := eq_false (nI_ge hi (by omega))
  have r : ri (mS u S m0 x y) 42 (nI i) = some (14 : Int32) := by
    rw [ri_nI ln_42 (show i < 6 by omega) (by decide)]
    refine congrArg some ?_
    unfold mS
    rw [if_neg (by decide), if_pos rfl]; exact e
  have m3 : (3 : Int32) * nI u = nI (3 * u) := pk_mul 3 u
  have a1 : nI (3 * u) + 1 = nI (3 * u + 1) := nI_add _ 1
  have a2 : nI (3 * u) + 2 = nI (3 * u + 2) := nI_add _ 2
  have x0 : ri (mS u S m0 x y) 36 (nI (3 * u)) = some (X 0) := by
    rw [ri_nI ln_36 (show 3 * u < 60 by omega) (by decide), mS_o (by omega) (by omega) (by omega) (by omega) (by omega)]; exact congrArg some (hX 0 (by decide))
  have x1 : ri (mS u S m0 x y) 36 (nI (3 * u + 1)) = some (X 1) := by
    rw [ri_nI ln_36 (show 3 * u + 1 < 60 by omega) (by decide), mS_o (by omega) (by omega) (by omega) (by omega) (by omega)]; exact congrArg some (hX 1 (by decide))
  have x2 : ri (mS u S m0 x y) 36 (nI (3 * u + 2)) = some (X 2) := by
    rw [ri_nI ln_36 (show 3 * u + 2 < 60 by omega) (by decide), mS_o (by omega) (by omega) (by omega) (by omega) (by omega)]; exact congrArg some (hX 2 (by decide))
  refine ⟨x', ?_⟩
  simp (decide := true) only [LF_X12_make_122, z7, if_false, if_true, rf_24_33, bse, r, F_X12_makeLayer, ck_24, rf_24_23, m3, a1, a2, x0, x1, x2, mk, b1e, wre, nI_1]
theorem dM_15 (hN : 5000 ≤ N) (hu : u < 20) (hM : CM m0) (hc : cd u < 29) (an : AN (cd u) S) (hk : KN S) (jb : JB S) (hX : ∀ j, j < 3 → m0 36 (3 * u + j) = X j) (hi : i < (chn (cd u)).length) (e : y i = nI 15) : ∃ x', LF_X12_make_122 N (k + 1) 24 (nI u) (nI (chn (cd u)).length) (nI i) (mS u S m0 x y) L (GRf pb) = LF_X12_make_122 N k 24 (nI u) (nI (chn (cd u)).length) (nI (i + 1)) (mS u (lay_15 u (cd u) X S) m0 x' y) L (GRf pb) := by
  have h5 := chn_len (cd u) hc
  obtain ⟨x', mk⟩ := mkM_15 (N := N) (pb := pb) (L := L) (x := x) (y := y) (X := X) hN hu hM hc an hk jb
  have z7 : (nI (chn (cd u)).length ≤ nI i) = False := eq_false (nI_ge hi (by omega))
  have r : ri (mS u S m0 x y) 42 (nI i) = some (15 : Int32) := by
    rw [ri_nI ln_42 (show i < 6 by omega) (by decide)]
    refine congrArg some ?_
    unfold mS
    rw [if_neg (by decide), if_pos rfl]; exact e
  have m3 : (3 : Int32) * nI u = nI (3 * u) := pk_mul 3 u
  have a1 : nI (3 * u) + 1 = nI (3 * u + 1) := nI_add _ 1
  have a2 : nI (3 * u) + 2 = nI (3 * u + 2) := nI_add _ 2
  have x0 : ri (mS u S m0 x y) 36 (nI (3 * u)) = some (X 0) := by
    rw [ri_nI ln_36 (show 3 * u < 60 by omega) (by decide), mS_o (by omega) (by omega) (by omega) (by omega) (by omega)]; exact congrArg some (hX 0 (by decide))
  have x1 : ri (mS u S m0 x y) 36 (nI (3 * u + 1)) = some (X 1) := by
    rw [ri_nI ln_36 (show 3 * u + 1 < 60 by omega) (by decide), mS_o (by omega) (by omega) (by omega) (by omega) (by omega)]; exact congrArg some (hX 1 (by decide))
  have x2 : ri (mS u S m0 x y) 36 (nI (3 * u + 2)) = some (X 2) := by
    rw [ri_nI ln_36 (show 3 * u + 2 < 60 by omega) (by decide), mS_o (by omega) (by omega) (by omega) (by omega) (by omega)]; exact congrArg some (hX 2 (by decide))
  refine ⟨x', ?_⟩
  simp (decide := true) only [LF_X12_make_122, z7, if_false, if_true, rf_24_33, bse, r, F_X12_makeLayer, ck_24, rf_24_23, m3, a1, a2, x0, x1, x2, mk, b1e, wre, nI_1]
theorem dM_16 (hN : 5000 ≤ N) (hu : u < 20) (hM : CM m0) (hc : cd u < 29) (an : AN (cd u) S) (hk : KN S) (jb : JB S) (hX : ∀ j, j < 3 → m0 36 (3 * u + j) = X j) (hi : i < (chn (cd u)).length) (e : y i = nI 16) : ∃ x', LF_X12_make_122 N (k + 1) 24 (nI u) (nI (chn (cd u)).length) (nI i) (mS u S m0 x y) L (GRf pb) = LF_X12_make_122 N k 24 (nI u) (nI (chn (cd u)).length) (nI (i + 1)) (mS u (lay_16 u (cd u) X S) m0 x' y) L (GRf pb) := by
  have h5 := chn_len (cd u) hc
  obtain ⟨x', mk⟩ := mkM_16 (N := N) (pb := pb) (L := L) (x := x) (y := y) (X := X) hN hu hM hc an hk jb
  have z7 : (nI (chn (cd u)).length ≤ nI i) = False := eq_false (nI_ge hi (by omega))
  have r : ri (mS u S m0 x y) 42 (nI i) = some (16 : Int32) := by
    rw [ri_nI ln_42 (show i < 6 by omega) (by decide)]
    refine congrArg some ?_
    unfold mS
    rw [if_neg (by decide), if_pos rfl]; exact e
  have m3 : (3 : Int32) * nI u = nI (3 * u) := pk_mul 3 u
  have a1 : nI (3 * u) + 1 = nI (3 * u + 1) := nI_add _ 1
  have a2 : nI (3 * u) + 2 = nI (3 * u + 2) := nI_add _ 2
  have x0 : ri (mS u S m0 x y) 36 (nI (3 * u)) = some (X 0) := by
    rw [ri_nI ln_36 (show 3 * u < 60 by omega) (by decide), mS_o (by omega) (by omega) (by omega) (by omega) (by omega)]; exact congrArg some (hX 0 (by decide))
  have x1 : ri (mS u S m0 x y) 36 (nI (3 * u + 1)) = some (X 1) := by
    rw [ri_nI ln_36 (show 3 * u + 1 < 60 by omega) (by decide), mS_o (by omega) (by omega) (by omega) (by omega) (by omega)]; exact congrArg some (hX 1 (by decide))
  have x2 : ri (mS u S m0 x y) 36 (nI (3 * u + 2)) = some (X 2) := by
    rw [ri_nI ln_36 (show 3 * u + 2 < 60 by omega) (by decide), mS_o (by omega) (by omega) (by omega) (by omega) (by omega)]; exact congrArg some (hX 2 (by decide))
  refine ⟨x', ?_⟩
  simp (decide := true) only [LF_X12_make_122, z7, if_false, if_true, rf_24_33, bse, r, F_X12_makeLayer, ck_24, rf_24_23, m3, a1, a2, x0, x1, x2, mk, b1e, wre, nI_1]
theorem dM_17 (hN : 5000 ≤ N) (hu : u < 20) (hM : CM m0) (hc : cd u < 29) (an : AN (cd u) S) (hk : KN S) (jb : JB S) (hX : ∀ j, j < 3 → m0 36 (3 * u + j) = X j) (hi : i < (chn (cd u)).length) (e : y i = nI 17) : ∃ x', LF_X12_make_122 N (k + 1) 24 (nI u) (nI (chn (cd u)).length) (nI i) (mS u S m0 x y) L (GRf pb) = LF_X12_make_122 N k 24 (nI u) (nI (chn (cd u)).length) (nI (i + 1)) (mS u (lay_17 u (cd u) X S) m0 x' y) L (GRf pb) := by
  have h5 := chn_len (cd u) hc
  obtain ⟨x', mk⟩ := mkM_17 (N := N) (pb := pb) (L := L) (x := x) (y := y) (X := X) hN hu hM hc an hk jb
  have z7 : (nI (chn (cd u)).length ≤ nI i) = False := eq_false (nI_ge hi (by omega))
  have r : ri (mS u S m0 x y) 42 (nI i) = some (17 : Int32) := by
    rw [ri_nI ln_42 (show i < 6 by omega) (by decide)]
    refine congrArg some ?_
    unfold mS
    rw [if_neg (by decide), if_pos rfl]; exact e
  have m3 : (3 : Int32) * nI u = nI (3 * u) := pk_mul 3 u
  have a1 : nI (3 * u) + 1 = nI (3 * u + 1) := nI_add _ 1
  have a2 : nI (3 * u) + 2 = nI (3 * u + 2) := nI_add _ 2
  have x0 : ri (mS u S m0 x y) 36 (nI (3 * u)) = some (X 0) := by
    rw [ri_nI ln_36 (show 3 * u < 60 by omega) (by decide), mS_o (by omega) (by omega) (by omega) (by omega) (by omega)]; exact congrArg some (hX 0 (by decide))
  have x1 : ri (mS u S m0 x y) 36 (nI (3 * u + 1)) = some (X 1) := by
    rw [ri_nI ln_36 (show 3 * u + 1 < 60 by omega) (by decide), mS_o (by omega) (by omega) (by omega) (by omega) (by omega)]; exact congrArg some (hX 1 (by decide))
  have x2 : ri (mS u S m0 x y) 36 (nI (3 * u + 2)) = some (X 2) := by
    rw [ri_nI ln_36 (show 3 * u + 2 < 60 by omega) (by decide), mS_o (by omega) (by omega) (by omega) (by omega) (by omega)]; exact congrArg some (hX 2 (by decide))
  refine ⟨x', ?_⟩
  simp (decide := true) only [LF_X12_make_122, z7, if_false, if_true, rf_24_33, bse, r, F_X12_makeLayer, ck_24, rf_24_23, m3, a1, a2, x0, x1, x2, mk, b1e, wre, nI_1]
theorem dM_18 (hN : 5000 ≤ N) (hu : u < 20) (hM : CM m0) (hc : cd u < 29) (an : AN (cd u) S) (hk : KN S) (jb : JB S) (hX : ∀ j, j < 3 → m0 36 (3 * u + j) = X j) (hi : i < (chn (cd u)).length) (e : y i = nI 18) : ∃ x', LF_X12_make_122 N (k + 1) 24 (nI u) (nI (chn (cd u)).length) (nI i) (mS u S m0 x y) L (GRf pb) = LF_X12_make_122 N k 24 (nI u) (nI (chn (cd u)).length) (nI (i + 1)) (mS u (lay_18 u (cd u) X S) m0 x' y) L (GRf pb) := by
  have h5 := chn_len (cd u) hc
  obtain ⟨x', mk⟩ := mkM_18 (N := N) (pb := pb) (L := L) (x := x) (y := y) (X := X) hN hu hM hc an hk jb
  have z7 : (nI (chn (cd u)).length ≤ nI i) = False := eq_false (nI_ge hi (by omega))
  have r : ri (mS u S m0 x y) 42 (nI i) = some (18 : Int32) := by
    rw [ri_nI ln_42 (show i < 6 by omega) (by decide)]
    refine congrArg some ?_
    unfold mS
    rw [if_neg (by decide), if_pos rfl]; exact e
  have m3 : (3 : Int32) * nI u = nI (3 * u) := pk_mul 3 u
  have a1 : nI (3 * u) + 1 = nI (3 * u + 1) := nI_add _ 1
  have a2 : nI (3 * u) + 2 = nI (3 * u + 2) := nI_add _ 2
  have x0 : ri (mS u S m0 x y) 36 (nI (3 * u)) = some (X 0) := by
    rw [ri_nI ln_36 (show 3 * u < 60 by omega) (by decide), mS_o (by omega) (by omega) (by omega) (by omega) (by omega)]; exact congrArg some (hX 0 (by decide))
  have x1 : ri (mS u S m0 x y) 36 (nI (3 * u + 1)) = some (X 1) := by
    rw [ri_nI ln_36 (show 3 * u + 1 < 60 by omega) (by decide), mS_o (by omega) (by omega) (by omega) (by omega) (by omega)]; exact congrArg some (hX 1 (by decide))
  have x2 : ri (mS u S m0 x y) 36 (nI (3 * u + 2)) = some (X 2) := by
    rw [ri_nI ln_36 (show 3 * u + 2 < 60 by omega) (by decide), mS_o (by omega) (by omega) (by omega) (by omega) (by omega)]; exact congrArg some (hX 2 (by decide))
  refine ⟨x', ?_⟩
  simp (decide := true) only [LF_X12_make_122, z7, if_false, if_true, rf_24_33, bse, r, F_X12_makeLayer, ck_24, rf_24_23, m3, a1, a2, x0, x1, x2, mk, b1e, wre, nI_1]
theorem dM_19 (hN : 5000 ≤ N) (hu : u < 20) (hM : CM m0) (hc : cd u < 29) (an : AN (cd u) S) (hk : KN S) (jb : JB S) (hX : ∀ j, j < 3 → m0 36 (3 * u + j) = X j) (hi : i < (chn (cd u)).length) (e : y i = nI 19) : ∃ x', LF_X12_make_122 N (k + 1) 24 (nI u) (nI (chn (cd u)).length) (nI i) (mS u S m0 x y) L (GRf pb) = LF_X12_make_122 N k 24 (nI u) (nI (chn (cd u)).length) (nI (i + 1)) (mS u (lay_19 u (cd u) X S) m0 x' y) L (GRf pb) := by
  have h5 := chn_len (cd u) hc
  obtain ⟨x', mk⟩ := mkM_19 (N := N) (pb := pb) (L := L) (x := x) (y := y) (X := X) hN hu hM hc an hk jb
  have z7 : (nI (chn (cd u)).length ≤ nI i) = False := eq_false (nI_ge hi (by omega))
  have r : ri (mS u S m0 x y) 42 (nI i) = some (19 : Int32) := by
    rw [ri_nI ln_42 (show i < 6 by omega) (by decide)]
    refine congrArg some ?_
    unfold mS
    rw [if_neg (by decide), if_pos rfl]; exact e
  have m3 : (3 : Int32) * nI u = nI (3 * u) := pk_mul 3 u
  have a1 : nI (3 * u) + 1 = nI (3 * u + 1) := nI_add _ 1
  have a2 : nI (3 * u) + 2 = nI (3 * u + 2) := nI_add _ 2
  have x0 : ri (mS u S m0 x y) 36 (nI (3 * u)) = some (X 0) := by
    rw [ri_nI ln_36 (show 3 * u < 60 by omega) (by decide), mS_o (by omega) (by omega) (by omega) (by omega) (by omega)]; exact congrArg some (hX 0 (by decide))
  have x1 : ri (mS u S m0 x y) 36 (nI (3 * u + 1)) = some (X 1) := by
    rw [ri_nI ln_36 (show 3 * u + 1 < 60 by omega) (by decide), mS_o (by omega) (by omega) (by omega) (by omega) (by omega)]; exact congrArg some (hX 1 (by decide))
  have x2 : ri (mS u S m0 x y) 36 (nI (3 * u + 2)) = some (X 2) := by
    rw [ri_nI ln_36 (show 3 * u + 2 < 60 by omega) (by decide), mS_o (by omega) (by omega) (by omega) (by omega) (by omega)]; exact congrArg some (hX 2 (by decide))
  refine ⟨x', ?_⟩
  simp (decide := true) only [LF_X12_make_122, z7, if_false, if_true, rf_24_33, bse, r, F_X12_makeLayer, ck_24, rf_24_23, m3, a1, a2, x0, x1, x2, mk, b1e, wre, nI_1]
theorem dM_20 (hN : 5000 ≤ N) (hu : u < 20) (hM : CM m0) (hc : cd u < 29) (an : AN (cd u) S) (hk : KN S) (jb : JB S) (hX : ∀ j, j < 3 → m0 36 (3 * u + j) = X j) (hi : i < (chn (cd u)).length) (e : y i = nI 20) : ∃ x', LF_X12_make_122 N (k + 1) 24 (nI u) (nI (chn (cd u)).length) (nI i) (mS u S m0 x y) L (GRf pb) = LF_X12_make_122 N k 24 (nI u) (nI (chn (cd u)).length) (nI (i + 1)) (mS u (lay_20 u (cd u) X S) m0 x' y) L (GRf pb) := by
  have h5 := chn_len (cd u) hc
  obtain ⟨x', mk⟩ := mkM_20 (N := N) (pb := pb) (L := L) (x := x) (y := y) (X := X) hN hu hM hc an hk jb
  have z7 : (nI (chn (cd u)).length ≤ nI i) = False := eq_false (nI_ge hi (by omega))
  have r : ri (mS u S m0 x y) 42 (nI i) = some (20 : Int32) := by
    rw [ri_nI ln_42 (show i < 6 by omega) (by decide)]
    refine congrArg some ?_
    unfold mS
    rw [if_neg (by decide), if_pos rfl]; exact e
  have m3 : (3 : Int32) * nI u = nI (3 * u) := pk_mul 3 u
  have a1 : nI (3 * u) + 1 = nI (3 * u + 1) := nI_add _ 1
  have a2 : nI (3 * u) + 2 = nI (3 * u + 2) := nI_add _ 2
  have x0 : ri (mS u S m0 x y) 36 (nI (3 * u)) = some (X 0) := by
    rw [ri_nI ln_36 (show 3 * u < 60 by omega) (by decide), mS_o (by omega) (by omega) (by omega) (by omega) (by omega)]; exact congrArg some (hX 0 (by decide))
  have x1 : ri (mS u S m0 x y) 36 (nI (3 * u + 1)) = some (X 1) := by
    rw [ri_nI ln_36 (show 3 * u + 1 < 60 by omega) (by decide), mS_o (by omega) (by omega) (by omega) (by omega) (by omega)]; exact congrArg some (hX 1 (by decide))
  have x2 : ri (mS u S m0 x y) 36 (nI (3 * u + 2)) = some (X 2) := by
    rw [ri_nI ln_36 (show 3 * u + 2 < 60 by omega) (by decide), mS_o (by omega) (by omega) (by omega) (by omega) (by omega)]; exact congrArg some (hX 2 (by decide))
  refine ⟨x', ?_⟩
  simp (decide := true) only [LF_X12_make_122, z7, if_false, if_true, rf_24_33, bse, r, F_X12_makeLayer, ck_24, rf_24_23, m3, a1, a2, x0, x1, x2, mk, b1e, wre, nI_1]
theorem dM_21 (hN : 5000 ≤ N) (hu : u < 20) (hM : CM m0) (hc : cd u < 29) (an : AN (cd u) S) (hk : KN S) (jb : JB S) (hX : ∀ j, j < 3 → m0 36 (3 * u + j) = X j) (hi : i < (chn (cd u)).length) (e : y i = nI 21) : ∃ x', LF_X12_make_122 N (k + 1) 24 (nI u) (nI (chn (cd u)).length) (nI i) (mS u S m0 x y) L (GRf pb) = LF_X12_make_122 N k 24 (nI u) (nI (chn (cd u)).length) (nI (i + 1)) (mS u (lay_21 u (cd u) X S) m0 x' y) L (GRf pb) := by
  have h5 := chn_len (cd u) hc
  obtain ⟨x', mk⟩ := mkM_21 (N := N) (pb := pb) (L := L) (x := x) (y := y) (X := X) hN hu hM hc an hk jb
  have z7 : (nI (chn (cd u)).length ≤ nI i) = False := eq_false (nI_ge hi (by omega))
  have r : ri (mS u S m0 x y) 42 (nI i) = some (21 : Int32) := by
    rw [ri_nI ln_42 (show i < 6 by omega) (by decide)]
    refine congrArg some ?_
    unfold mS
    rw [if_neg (by decide), if_pos rfl]; exact e
  have m3 : (3 : Int32) * nI u = nI (3 * u) := pk_mul 3 u
  have a1 : nI (3 * u) + 1 = nI (3 * u + 1) := nI_add _ 1
  have a2 : nI (3 * u) + 2 = nI (3 * u + 2) := nI_add _ 2
  have x0 : ri (mS u S m0 x y) 36 (nI (3 * u)) = some (X 0) := by
    rw [ri_nI ln_36 (show 3 * u < 60 by omega) (by decide), mS_o (by omega) (by omega) (by omega) (by omega) (by omega)]; exact congrArg some (hX 0 (by decide))
  have x1 : ri (mS u S m0 x y) 36 (nI (3 * u + 1)) = some (X 1) := by
    rw [ri_nI ln_36 (show 3 * u + 1 < 60 by omega) (by decide), mS_o (by omega) (by omega) (by omega) (by omega) (by omega)]; exact congrArg some (hX 1 (by decide))
  have x2 : ri (mS u S m0 x y) 36 (nI (3 * u + 2)) = some (X 2) := by
    rw [ri_nI ln_36 (show 3 * u + 2 < 60 by omega) (by decide), mS_o (by omega) (by omega) (by omega) (by omega) (by omega)]; exact congrArg some (hX 2 (by decide))
  refine ⟨x', ?_⟩
  simp (decide := true) only [LF_X12_make_122, z7, if_false, if_true, rf_24_33, bse, r, F_X12_makeLayer, ck_24, rf_24_23, m3, a1, a2, x0, x1, x2, mk, b1e, wre, nI_1]
theorem dM_22 (hN : 5000 ≤ N) (hu : u < 20) (hM : CM m0) (hc : cd u < 29) (an : AN (cd u) S) (hk : KN S) (jb : JB S) (hX : ∀ j, j < 3 → m0 36 (3 * u + j) = X j) (hi : i < (chn (cd u)).length) (e : y i = nI 22) : ∃ x', LF_X12_make_122 N (k + 1) 24 (nI u) (nI (chn (cd u)).length) (nI i) (mS u S m0 x y) L (GRf pb) = LF_X12_make_122 N k 24 (nI u) (nI (chn (cd u)).length) (nI (i + 1)) (mS u (lay_22 u (cd u) X S) m0 x' y) L (GRf pb) := by
  have h5 := chn_len (cd u) hc
  obtain ⟨x', mk⟩ := mkM_22 (N := N) (pb := pb) (L := L) (x := x) (y := y) (X := X) hN hu hM hc an hk jb
  have z7 : (nI (chn (cd u)).length ≤ nI i) = False := eq_false (nI_ge hi (by omega))
  have r : ri (mS u S m0 x y) 42 (nI i) = some (22 : Int32) := by
    rw [ri_nI ln_42 (show i < 6 by omega) (by decide)]
    refine congrArg some ?_
    unfold mS
    rw [if_neg (by decide), if_pos rfl]; exact e
  have m3 : (3 : Int32) * nI u = nI (3 * u) := pk_mul 3 u
  have a1 : nI (3 * u) + 1 = nI (3 * u + 1) := nI_add _ 1
  have a2 : nI (3 * u) + 2 = nI (3 * u + 2) := nI_add _ 2
  have x0 : ri (mS u S m0 x y) 36 (nI (3 * u)) = some (X 0) := by
    rw [ri_nI ln_36 (show 3 * u < 60 by omega) (by decide), mS_o (by omega) (by omega) (by omega) (by omega) (by omega)]; exact congrArg some (hX 0 (by decide))
  have x1 : ri (mS u S m0 x y) 36 (nI (3 * u + 1)) = some (X 1) := by
    rw [ri_nI ln_36 (show 3 * u + 1 < 60 by omega) (by decide), mS_o (by omega) (by omega) (by omega) (by omega) (by omega)]; exact congrArg some (hX 1 (by decide))
  have x2 : ri (mS u S m0 x y) 36 (nI (3 * u + 2)) = some (X 2) := by
    rw [ri_nI ln_36 (show 3 * u + 2 < 60 by omega) (by decide), mS_o (by omega) (by omega) (by omega) (by omega) (by omega)]; exact congrArg some (hX 2 (by decide))
  refine ⟨x', ?_⟩
  simp (decide := true) only [LF_X12_make_122, z7, if_false, if_true, rf_24_33, bse, r, F_X12_makeLayer, ck_24, rf_24_23, m3, a1, a2, x0, x1, x2, mk, b1e, wre, nI_1]
theorem dM_23 (hN : 5000 ≤ N) (hu : u < 20) (hM : CM m0) (hc : cd u < 29) (an : AN (cd u) S) (hk : KN S) (jb : JB S) (hX : ∀ j, j < 3 → m0 36 (3 * u + j) = X j) (hi : i < (chn (cd u)).length) (e : y i = nI 23) : ∃ x', LF_X12_make_122 N (k + 1) 24 (nI u) (nI (chn (cd u)).length) (nI i) (mS u S m0 x y) L (GRf pb) = LF_X12_make_122 N k 24 (nI u) (nI (chn (cd u)).length) (nI (i + 1)) (mS u (lay_23 u (cd u) X S) m0 x' y) L (GRf pb) := by
  have h5 := chn_len (cd u) hc
  obtain ⟨x', mk⟩ := mkM_23 (N := N) (pb := pb) (L := L) (x := x) (y := y) (X := X) hN hu hM hc an hk jb
  have z7 : (nI (chn (cd u)).length ≤ nI i) = False := eq_false (nI_ge hi (by omega))
  have r : ri (mS u S m0 x y) 42 (nI i) = some (23 : Int32) := by
    rw [ri_nI ln_42 (show i < 6 by omega) (by decide)]
    refine congrArg some ?_
    unfold mS
    rw [if_neg (by decide), if_pos rfl]; exact e
  have m3 : (3 : Int32) * nI u = nI (3 * u) := pk_mul 3 u
  have a1 : nI (3 * u) + 1 = nI (3 * u + 1) := nI_add _ 1
  have a2 : nI (3 * u) + 2 = nI (3 * u + 2) := nI_add _ 2
  have x0 : ri (mS u S m0 x y) 36 (nI (3 * u)) = some (X 0) := by
    rw [ri_nI ln_36 (show 3 * u < 60 by omega) (by decide), mS_o (by omega) (by omega) (by omega) (by omega) (by omega)]; exact congrArg some (hX 0 (by decide))
  have x1 : ri (mS u S m0 x y) 36 (nI (3 * u + 1)) = some (X 1) := by
    rw [ri_nI ln_36 (show 3 * u + 1 < 60 by omega) (by decide), mS_o (by omega) (by omega) (by omega) (by omega) (by omega)]; exact congrArg some (hX 1 (by decide))
  have x2 : ri (mS u S m0 x y) 36 (nI (3 * u + 2)) = some (X 2) := by
    rw [ri_nI ln_36 (show 3 * u + 2 < 60 by omega) (by decide), mS_o (by omega) (by omega) (by omega) (by omega) (by omega)]; exact congrArg some (hX 2 (by decide))
  refine ⟨x', ?_⟩
  simp (decide := true) only [LF_X12_make_122, z7, if_false, if_true, rf_24_33, bse, r, F_X12_makeLayer, ck_24, rf_24_23, m3, a1, a2, x0, x1, x2, mk, b1e, wre, nI_1]
theorem dM_24 (hN : 5000 ≤ N) (hu : u < 20) (hM : CM m0) (hc : cd u < 29) (an : AN (cd u) S) (hk : KN S) (jb : JB S) (hX : ∀ j, j < 3 → m0 36 (3 * u + j) = X j) (hi : i < (chn (cd u)).length) (e : y i = nI 24) : ∃ x', LF_X12_make_122 N (k + 1) 24 (nI u) (nI (chn (cd u)).length) (nI i) (mS u S m0 x y) L (GRf pb) = LF_X12_make_122 N k 24 (nI u) (nI (chn (cd u)).length) (nI (i + 1)) (mS u (lay_24 u (cd u) X S) m0 x' y) L (GRf pb) := by
  have h5 := chn_len (cd u) hc
  obtain ⟨x', mk⟩ := mkM_24 (N := N) (pb := pb) (L := L) (x := x) (y := y) (X := X) hN hu hM hc an hk jb
  have z7 : (nI (chn (cd u)).length ≤ nI i) = False := eq_false (nI_ge hi (by omega))
  have r : ri (mS u S m0 x y) 42 (nI i) = some (24 : Int32) := by
    rw [ri_nI ln_42 (show i < 6 by omega) (by decide)]
    refine congrArg some ?_
    unfold mS
    rw [if_neg (by decide), if_pos rfl]; exact e
  have m3 : (3 : Int32) * nI u = nI (3 * u) := pk_mul 3 u
  have a1 : nI (3 * u) + 1 = nI (3 * u + 1) := nI_add _ 1
  have a2 : nI (3 * u) + 2 = nI (3 * u + 2) := nI_add _ 2
  have x0 : ri (mS u S m0 x y) 36 (nI (3 * u)) = some (X 0) := by
    rw [ri_nI ln_36 (show 3 * u < 60 by omega) (by decide), mS_o (by omega) (by omega) (by omega) (by omega) (by omega)]; exact congrArg some (hX 0 (by decide))
  have x1 : ri (mS u S m0 x y) 36 (nI (3 * u + 1)) = some (X 1) := by
    rw [ri_nI ln_36 (show 3 * u + 1 < 60 by omega) (by decide), mS_o (by omega) (by omega) (by omega) (by omega) (by omega)]; exact congrArg some (hX 1 (by decide))
  have x2 : ri (mS u S m0 x y) 36 (nI (3 * u + 2)) = some (X 2) := by
    rw [ri_nI ln_36 (show 3 * u + 2 < 60 by omega) (by decide), mS_o (by omega) (by omega) (by omega) (by omega) (by omega)]; exact congrArg some (hX 2 (by decide))
  refine ⟨x', ?_⟩
  simp (decide := true) only [LF_X12_make_122, z7, if_false, if_true, rf_24_33, bse, r, F_X12_makeLayer, ck_24, rf_24_23, m3, a1, a2, x0, x1, x2, mk, b1e, wre, nI_1]
theorem dM_25 (hN : 5000 ≤ N) (hu : u < 20) (hM : CM m0) (hc : cd u < 29) (an : AN (cd u) S) (hk : KN S) (jb : JB S) (hX : ∀ j, j < 3 → m0 36 (3 * u + j) = X j) (hi : i < (chn (cd u)).length) (e : y i = nI 25) : ∃ x', LF_X12_make_122 N (k + 1) 24 (nI u) (nI (chn (cd u)).length) (nI i) (mS u S m0 x y) L (GRf pb) = LF_X12_make_122 N k 24 (nI u) (nI (chn (cd u)).length) (nI (i + 1)) (mS u (lay_25 u (cd u) X S) m0 x' y) L (GRf pb) := by
  have h5 := chn_len (cd u) hc
  obtain ⟨x', mk⟩ := mkM_25 (N := N) (pb := pb) (L := L) (x := x) (y := y) (X := X) hN hu hM hc an hk jb
  have z7 : (nI (chn (cd u)).length ≤ nI i) = False := eq_false (nI_ge hi (by omega))
  have r : ri (mS u S m0 x y) 42 (nI i) = some (25 : Int32) := by
    rw [ri_nI ln_42 (show i < 6 by omega) (by decide)]
    refine congrArg some ?_
    unfold mS
    rw [if_neg (by decide), if_pos rfl]; exact e
  have m3 : (3 : Int32) * nI u = nI (3 * u) := pk_mul 3 u
  have a1 : nI (3 * u) + 1 = nI (3 * u + 1) := nI_add _ 1
  have a2 : nI (3 * u) + 2 = nI (3 * u + 2) := nI_add _ 2
  have x0 : ri (mS u S m0 x y) 36 (nI (3 * u)) = some (X 0) := by
    rw [ri_nI ln_36 (show 3 * u < 60 by omega) (by decide), mS_o (by omega) (by omega) (by omega) (by omega) (by omega)]; exact congrArg some (hX 0 (by decide))
  have x1 : ri (mS u S m0 x y) 36 (nI (3 * u + 1)) = some (X 1) := by
    rw [ri_nI ln_36 (show 3 * u + 1 < 60 by omega) (by decide), mS_o (by omega) (by omega) (by omega) (by omega) (by omega)]; exact congrArg some (hX 1 (by decide))
  have x2 : ri (mS u S m0 x y) 36 (nI (3 * u + 2)) = some (X 2) := by
    rw [ri_nI ln_36 (show 3 * u + 2 < 60 by omega) (by decide), mS_o (by omega) (by omega) (by omega) (by omega) (by omega)]; exact congrArg some (hX 2 (by decide))
  refine ⟨x', ?_⟩
  simp (decide := true) only [LF_X12_make_122, z7, if_false, if_true, rf_24_33, bse, r, F_X12_makeLayer, ck_24, rf_24_23, m3, a1, a2, x0, x1, x2, mk, b1e, wre, nI_1]
theorem dM_26 (hN : 5000 ≤ N) (hu : u < 20) (hM : CM m0) (hc : cd u < 29) (an : AN (cd u) S) (hk : KN S) (jb : JB S) (hX : ∀ j, j < 3 → m0 36 (3 * u + j) = X j) (hi : i < (chn (cd u)).length) (e : y i = nI 26) : ∃ x', LF_X12_make_122 N (k + 1) 24 (nI u) (nI (chn (cd u)).length) (nI i) (mS u S m0 x y) L (GRf pb) = LF_X12_make_122 N k 24 (nI u) (nI (chn (cd u)).length) (nI (i + 1)) (mS u (lay_26 u (cd u) X S) m0 x' y) L (GRf pb) := by
  have h5 := chn_len (cd u) hc
  obtain ⟨x', mk⟩ := mkM_26 (N := N) (pb := pb) (L := L) (x := x) (y := y) (X := X) hN hu hM hc an hk jb
  have z7 : (nI (chn (cd u)).length ≤ nI i) = False := eq_false (nI_ge hi (by omega))
  have r : ri (mS u S m0 x y) 42 (nI i) = some (26 : Int32) := by
    rw [ri_nI ln_42 (show i < 6 by omega) (by decide)]
    refine congrArg some ?_
    unfold mS
    rw [if_neg (by decide), if_pos rfl]; exact e
  have m3 : (3 : Int32) * nI u = nI (3 * u) := pk_mul 3 u
  have a1 : nI (3 * u) + 1 = nI (3 * u + 1) := nI_add _ 1
  have a2 : nI (3 * u) + 2 = nI (3 * u + 2) := nI_add _ 2
  have x0 : ri (mS u S m0 x y) 36 (nI (3 * u)) = some (X 0) := by
    rw [ri_nI ln_36 (show 3 * u < 60 by omega) (by decide), mS_o (by omega) (by omega) (by omega) (by omega) (by omega)]; exact congrArg some (hX 0 (by decide))
  have x1 : ri (mS u S m0 x y) 36 (nI (3 * u + 1)) = some (X 1) := by
    rw [ri_nI ln_36 (show 3 * u + 1 < 60 by omega) (by decide), mS_o (by omega) (by omega) (by omega) (by omega) (by omega)]; exact congrArg some (hX 1 (by decide))
  have x2 : ri (mS u S m0 x y) 36 (nI (3 * u + 2)) = some (X 2) := by
    rw [ri_nI ln_36 (show 3 * u + 2 < 60 by omega) (by decide), mS_o (by omega) (by omega) (by omega) (by omega) (by omega)]; exact congrArg some (hX 2 (by decide))
  refine ⟨x', ?_⟩
  simp (decide := true) only [LF_X12_make_122, z7, if_false, if_true, rf_24_33, bse, r, F_X12_makeLayer, ck_24, rf_24_23, m3, a1, a2, x0, x1, x2, mk, b1e, wre, nI_1]
theorem dM_27 (hN : 5000 ≤ N) (hu : u < 20) (hM : CM m0) (hc : cd u < 29) (an : AN (cd u) S) (hk : KN S) (jb : JB S) (hX : ∀ j, j < 3 → m0 36 (3 * u + j) = X j) (hi : i < (chn (cd u)).length) (e : y i = nI 27) : ∃ x', LF_X12_make_122 N (k + 1) 24 (nI u) (nI (chn (cd u)).length) (nI i) (mS u S m0 x y) L (GRf pb) = LF_X12_make_122 N k 24 (nI u) (nI (chn (cd u)).length) (nI (i + 1)) (mS u (lay_27 u (cd u) X S) m0 x' y) L (GRf pb) := by
  have h5 := chn_len (cd u) hc
  obtain ⟨x', mk⟩ := mkM_27 (N := N) (pb := pb) (L := L) (x := x) (y := y) (X := X) hN hu hM hc an hk jb
  have z7 : (nI (chn (cd u)).length ≤ nI i) = False := eq_false (nI_ge hi (by omega))
  have r : ri (mS u S m0 x y) 42 (nI i) = some (27 : Int32) := by
    rw [ri_nI ln_42 (show i < 6 by omega) (by decide)]
    refine congrArg some ?_
    unfold mS
    rw [if_neg (by decide), if_pos rfl]; exact e
  have m3 : (3 : Int32) * nI u = nI (3 * u) := pk_mul 3 u
  have a1 : nI (3 * u) + 1 = nI (3 * u + 1) := nI_add _ 1
  have a2 : nI (3 * u) + 2 = nI (3 * u + 2) := nI_add _ 2
  have x0 : ri (mS u S m0 x y) 36 (nI (3 * u)) = some (X 0) := by
    rw [ri_nI ln_36 (show 3 * u < 60 by omega) (by decide), mS_o (by omega) (by omega) (by omega) (by omega) (by omega)]; exact congrArg some (hX 0 (by decide))
  have x1 : ri (mS u S m0 x y) 36 (nI (3 * u + 1)) = some (X 1) := by
    rw [ri_nI ln_36 (show 3 * u + 1 < 60 by omega) (by decide), mS_o (by omega) (by omega) (by omega) (by omega) (by omega)]; exact congrArg some (hX 1 (by decide))
  have x2 : ri (mS u S m0 x y) 36 (nI (3 * u + 2)) = some (X 2) := by
    rw [ri_nI ln_36 (show 3 * u + 2 < 60 by omega) (by decide), mS_o (by omega) (by omega) (by omega) (by omega) (by omega)]; exact congrArg some (hX 2 (by decide))
  refine ⟨x', ?_⟩
  simp (decide := true) only [LF_X12_make_122, z7, if_false, if_true, rf_24_33, bse, r, F_X12_makeLayer, ck_24, rf_24_23, m3, a1, a2, x0, x1, x2, mk, b1e, wre, nI_1]
theorem dM_28 (hN : 5000 ≤ N) (hu : u < 20) (hM : CM m0) (hc : cd u < 29) (an : AN (cd u) S) (hk : KN S) (jb : JB S) (hX : ∀ j, j < 3 → m0 36 (3 * u + j) = X j) (hi : i < (chn (cd u)).length) (e : y i = nI 28) : ∃ x', LF_X12_make_122 N (k + 1) 24 (nI u) (nI (chn (cd u)).length) (nI i) (mS u S m0 x y) L (GRf pb) = LF_X12_make_122 N k 24 (nI u) (nI (chn (cd u)).length) (nI (i + 1)) (mS u (lay_28 u (cd u) X S) m0 x' y) L (GRf pb) := by
  have h5 := chn_len (cd u) hc
  obtain ⟨x', mk⟩ := mkM_28 (N := N) (pb := pb) (L := L) (x := x) (y := y) (X := X) hN hu hM hc an hk jb
  have z7 : (nI (chn (cd u)).length ≤ nI i) = False := eq_false (nI_ge hi (by omega))
  have r : ri (mS u S m0 x y) 42 (nI i) = some (28 : Int32) := by
    rw [ri_nI ln_42 (show i < 6 by omega) (by decide)]
    refine congrArg some ?_
    unfold mS
    rw [if_neg (by decide), if_pos rfl]; exact e
  have m3 : (3 : Int32) * nI u = nI (3 * u) := pk_mul 3 u
  have a1 : nI (3 * u) + 1 = nI (3 * u + 1) := nI_add _ 1
  have a2 : nI (3 * u) + 2 = nI (3 * u + 2) := nI_add _ 2
  have x0 : ri (mS u S m0 x y) 36 (nI (3 * u)) = some (X 0) := by
    rw [ri_nI ln_36 (show 3 * u < 60 by omega) (by decide), mS_o (by omega) (by omega) (by omega) (by omega) (by omega)]; exact congrArg some (hX 0 (by decide))
  have x1 : ri (mS u S m0 x y) 36 (nI (3 * u + 1)) = some (X 1) := by
    rw [ri_nI ln_36 (show 3 * u + 1 < 60 by omega) (by decide), mS_o (by omega) (by omega) (by omega) (by omega) (by omega)]; exact congrArg some (hX 1 (by decide))
  have x2 : ri (mS u S m0 x y) 36 (nI (3 * u + 2)) = some (X 2) := by
    rw [ri_nI ln_36 (show 3 * u + 2 < 60 by omega) (by decide), mS_o (by omega) (by omega) (by omega) (by omega) (by omega)]; exact congrArg some (hX 2 (by decide))
  refine ⟨x', ?_⟩
  simp (decide := true) only [LF_X12_make_122, z7, if_false, if_true, rf_24_33, bse, r, F_X12_makeLayer, ck_24, rf_24_23, m3, a1, a2, x0, x1, x2, mk, b1e, wre, nI_1]
theorem mk_step {Kd Ka Kn j kc kr : Nat} (hN : 5000 ≤ N) (hn : n ≤ 20) (hu : u < 20) (hc : cd u < 29) (hkn : kin (cd u)) (ft : FT n cd u X) (hM : CM m0) (hKd : Kd + 31 ≤ 1500) (hKa : Ka ≤ 900) (hKn : Kn + 31 < 2 ^ 20) (h7 : c0 (U u) 7 = nI (chn (cd u)).length) (hl : ∀ i, i < (chn (cd u)).length → c0 (U u + 2) i = nI ((chn (cd u)).getD i 0)) (hXc : ∀ i, i < mny (cd u) → c0 (U u) (4 + i) = X i) (hXm : ∀ j, j < 3 → m0 36 (3 * u + j) = X j) (hy : ∀ i, i < (chn (cd u)).length → y i = nI ((chn (cd u)).getD i 0)) (hj : j < (chn (cd u)).length) (h : INV cd u X (loC (cd u) j) Kd Ka Kn S) :
    ∃ S' x', LF_X10_make_7 N (kc + 1) 1 (U u) (nI j) (cS u S c0) L (GRf pb) = LF_X10_make_7 N kc 1 (U u) (nI (j + 1)) (cS u S' c0) L (GRf pb) ∧ LF_X12_make_122 N (kr + 1) 24 (nI u) (nI (chn (cd u)).length) (nI j) (mS u S m0 x y) L (GRf pb) = LF_X12_make_122 N kr 24 (nI u) (nI (chn (cd u)).length) (nI (j + 1)) (mS u S' m0 x' y) L (GRf pb) ∧ INV cd u X (loC (cd u) (j + 1)) Kd Ka Kn S' ∧ S' = layN u (cd u) X ((chn (cd u)).getD j 0) S := by
  obtain ⟨q1, q2, q3, q4, q5⟩ := chn_step (cd u) hc j hj
  have hyj := hy j hj
  have hu' : u ≤ 20 := by omega
  generalize hlg : (chn (cd u)).getD j 0 = l at *
  rw [q4]
  have gap : ∀ t, loC (cd u) j ≤ t → t < l → isL (cd u) t = false := fun t h1 h2 => q5 t (by omega) h1 h2
  have kn := h.kn (show Kn + loC (cd u) j < 2 ^ 20 by omega)
  have an := h.an
  have jb := h.jb (show Kd + loC (cd u) j ≤ 100000 by omega)
  have cas : l = 0 ∨ l = 1 ∨ l = 2 ∨ l = 3 ∨ l = 4 ∨ l = 5 ∨ l = 6 ∨ l = 7 ∨ l = 8 ∨ l = 9 ∨ l = 10 ∨ l = 11 ∨ l = 12 ∨ l = 13 ∨ l = 14 ∨ l = 15 ∨ l = 16 ∨ l = 17 ∨ l = 18 ∨ l = 19 ∨ l = 20 ∨ l = 21 ∨ l = 22 ∨ l = 23 ∨ l = 24 ∨ l = 25 ∨ l = 26 ∨ l = 27 ∨ l = 28 := by omega
  rcases cas with rfl | rfl | rfl | rfl | rfl | rfl | rfl | rfl | rfl | rfl | rfl | rfl | rfl | rfl | rfl | rfl | rfl | rfl | rfl | rfl | rfl | rfl | rfl | rfl | rfl | rfl | rfl | rfl | rfl
  ·
    obtain ⟨x', e2⟩ := dM_0 (N := N) (k := kr) (pb := pb) (L := L) (x := x) (y := y) (X := X) (i := j) hN hu hM hc an kn jb hXm hj hyj
    exact ⟨_, x', dC_0 hN hu' hc hkn q2 h7 hl hXc h.hp0 kn hj hlg, e2, inv_0 h hn ft hc hkn hKd hKa q2 q1 gap, rfl⟩
  ·
    have hp := h.hp (by
      rcases Nat.eq_zero_or_pos (loC (cd u) j) with q | q
      · have := gap 0 (by omega) (by decide)
        rw [(show ∀ c, c < 29 → isL c 0 = true by decide) _ hc] at this
        cases this
      · exact q)
    obtain ⟨x', e2⟩ := dM_1 (N := N) (k := kr) (pb := pb) (L := L) (x := x) (y := y) (X := X) (i := j) hN hu hM hc an kn jb hXm hj hyj
    exact ⟨_, x', dC_1 hN hu' hc hkn q2 h7 hl hXc hp kn hj hlg, e2, inv_1 h hn ft hc hkn hKd hKa q2 q1 gap, rfl⟩
  ·
    have hp := h.hp (by
      rcases Nat.eq_zero_or_pos (loC (cd u) j) with q | q
      · have := gap 0 (by omega) (by decide)
        rw [(show ∀ c, c < 29 → isL c 0 = true by decide) _ hc] at this
        cases this
      · exact q)
    obtain ⟨x', e2⟩ := dM_2 (N := N) (k := kr) (pb := pb) (L := L) (x := x) (y := y) (X := X) (i := j) hN hu hM hc an kn jb hXm hj hyj
    exact ⟨_, x', dC_2 hN hu' hc hkn q2 h7 hl hXc hp kn hj hlg, e2, inv_2 h hn ft hc hkn hKd hKa q2 q1 gap, rfl⟩
  ·
    have hp := h.hp (by
      rcases Nat.eq_zero_or_pos (loC (cd u) j) with q | q
      · have := gap 0 (by omega) (by decide)
        rw [(show ∀ c, c < 29 → isL c 0 = true by decide) _ hc] at this
        cases this
      · exact q)
    obtain ⟨x', e2⟩ := dM_3 (N := N) (k := kr) (pb := pb) (L := L) (x := x) (y := y) (X := X) (i := j) hN hu hM hc an kn jb hXm hj hyj
    exact ⟨_, x', dC_3 hN hu' hc hkn q2 h7 hl hXc hp kn hj hlg, e2, inv_3 h hn ft hc hkn hKd hKa q2 q1 gap, rfl⟩
  ·
    have hp := h.hp (by
      rcases Nat.eq_zero_or_pos (loC (cd u) j) with q | q
      · have := gap 0 (by omega) (by decide)
        rw [(show ∀ c, c < 29 → isL c 0 = true by decide) _ hc] at this
        cases this
      · exact q)
    obtain ⟨x', e2⟩ := dM_4 (N := N) (k := kr) (pb := pb) (L := L) (x := x) (y := y) (X := X) (i := j) hN hu hM hc an kn jb hXm hj hyj
    exact ⟨_, x', dC_4 hN hu' hc hkn q2 h7 hl hXc hp kn hj hlg, e2, inv_4 h hn ft hc hkn hKd hKa q2 q1 gap, rfl⟩
  ·
    have hp := h.hp (by
      rcases Nat.eq_zero_or_pos (loC (cd u) j) with q | q
      · have := gap 0 (by omega) (by decide)
        rw [(show ∀ c, c < 29 → isL c 0 = true by decide) _ hc] at this
        cases this
      · exact q)
    obtain ⟨x', e2⟩ := dM_5 (N := N) (k := kr) (pb := pb) (L := L) (x := x) (y := y) (X := X) (i := j) hN hu hM hc an kn jb hXm hj hyj
    exact ⟨_, x', dC_5 hN hu' hc hkn q2 h7 hl hXc hp kn hj hlg, e2, inv_5 h hn ft hc hkn hKd hKa q2 q1 gap, rfl⟩
  ·
    have hp := h.hp (by
      rcases Nat.eq_zero_or_pos (loC (cd u) j) with q | q
      · have := gap 0 (by omega) (by decide)
        rw [(show ∀ c, c < 29 → isL c 0 = true by decide) _ hc] at this
        cases this
      · exact q)
    obtain ⟨x', e2⟩ := dM_6 (N := N) (k := kr) (pb := pb) (L := L) (x := x) (y := y) (X := X) (i := j) hN hu hM hc an kn jb hXm hj hyj
    exact ⟨_, x', dC_6 hN hu' hc hkn q2 h7 hl hXc hp kn hj hlg, e2, inv_6 h hn ft hc hkn hKd hKa q2 q1 gap, rfl⟩
  ·
    have hp := h.hp (by
      rcases Nat.eq_zero_or_pos (loC (cd u) j) with q | q
      · have := gap 0 (by omega) (by decide)
        rw [(show ∀ c, c < 29 → isL c 0 = true by decide) _ hc] at this
        cases this
      · exact q)
    obtain ⟨x', e2⟩ := dM_7 (N := N) (k := kr) (pb := pb) (L := L) (x := x) (y := y) (X := X) (i := j) hN hu hM hc an kn jb hXm hj hyj
    exact ⟨_, x', dC_7 hN hu' hc hkn q2 h7 hl hXc hp kn hj hlg, e2, inv_7 h hn ft hc hkn hKd hKa q2 q1 gap, rfl⟩
  ·
    have hp := h.hp (by
      rcases Nat.eq_zero_or_pos (loC (cd u) j) with q | q
      · have := gap 0 (by omega) (by decide)
        rw [(show ∀ c, c < 29 → isL c 0 = true by decide) _ hc] at this
        cases this
      · exact q)
    obtain ⟨x', e2⟩ := dM_8 (N := N) (k := kr) (pb := pb) (L := L) (x := x) (y := y) (X := X) (i := j) hN hu hM hc an kn jb hXm hj hyj
    exact ⟨_, x', dC_8 hN hu' hc hkn q2 h7 hl hXc hp kn hj hlg, e2, inv_8 h hn ft hc hkn hKd hKa q2 q1 gap, rfl⟩
  ·
    have hp := h.hp (by
      rcases Nat.eq_zero_or_pos (loC (cd u) j) with q | q
      · have := gap 0 (by omega) (by decide)
        rw [(show ∀ c, c < 29 → isL c 0 = true by decide) _ hc] at this
        cases this
      · exact q)
    obtain ⟨x', e2⟩ := dM_9 (N := N) (k := kr) (pb := pb) (L := L) (x := x) (y := y) (X := X) (i := j) hN hu hM hc an kn jb hXm hj hyj
    exact ⟨_, x', dC_9 hN hu' hc hkn q2 h7 hl hXc hp kn hj hlg, e2, inv_9 h hn ft hc hkn hKd hKa q2 q1 gap, rfl⟩
  ·
    have hp := h.hp (by
      rcases Nat.eq_zero_or_pos (loC (cd u) j) with q | q
      · have := gap 0 (by omega) (by decide)
        rw [(show ∀ c, c < 29 → isL c 0 = true by decide) _ hc] at this
        cases this
      · exact q)
    obtain ⟨x', e2⟩ := dM_10 (N := N) (k := kr) (pb := pb) (L := L) (x := x) (y := y) (X := X) (i := j) hN hu hM hc an kn jb hXm hj hyj
    exact ⟨_, x', dC_10 hN hu' hc hkn q2 h7 hl hXc hp kn hj hlg, e2, inv_10 h hn ft hc hkn hKd hKa q2 q1 gap, rfl⟩
  ·
    have hp := h.hp (by
      rcases Nat.eq_zero_or_pos (loC (cd u) j) with q | q
      · have := gap 0 (by omega) (by decide)
        rw [(show ∀ c, c < 29 → isL c 0 = true by decide) _ hc] at this
        cases this
      · exact q)
    obtain ⟨x', e2⟩ := dM_11 (N := N) (k := kr) (pb := pb) (L := L) (x := x) (y := y) (X := X) (i := j) hN hu hM hc an kn jb hXm hj hyj
    exact ⟨_, x', dC_11 hN hu' hc hkn q2 h7 hl hXc hp kn hj hlg, e2, inv_11 h hn ft hc hkn hKd hKa q2 q1 gap, rfl⟩
  ·
    have hp := h.hp (by
      rcases Nat.eq_zero_or_pos (loC (cd u) j) with q | q
      · have := gap 0 (by omega) (by decide)
        rw [(show ∀ c, c < 29 → isL c 0 = true by decide) _ hc] at this
        cases this
      · exact q)
    obtain ⟨x', e2⟩ := dM_12 (N := N) (k := kr) (pb := pb) (L := L) (x := x) (y := y) (X := X) (i := j) hN hu hM hc an kn jb hXm hj hyj
    exact ⟨_, x', dC_12 hN hu' hc hkn q2 h7 hl hXc hp kn hj hlg, e2, inv_12 h hn ft hc hkn hKd hKa q2 q1 gap, rfl⟩
  ·
    have hp := h.hp (by
      rcases Nat.eq_zero_or_pos (loC (cd u) j) with q | q
      · have := gap 0 (by omega) (by decide)
        rw [(show ∀ c, c < 29 → isL c 0 = true by decide) _ hc] at this
        cases this
      · exact q)
    obtain ⟨x', e2⟩ := dM_13 (N := N) (k := kr) (pb := pb) (L := L) (x := x) (y := y) (X := X) (i := j) hN hu hM hc an kn jb hXm hj hyj
    exact ⟨_, x', dC_13 hN hu' hc hkn q2 h7 hl hXc hp kn hj hlg, e2, inv_13 h hn ft hc hkn hKd hKa q2 q1 gap, rfl⟩
  ·
    have hp := h.hp (by
      rcases Nat.eq_zero_or_pos (loC (cd u) j) with q | q
      · have := gap 0 (by omega) (by decide)
        rw [(show ∀ c, c < 29 → isL c 0 = true by decide) _ hc] at this
        cases this
      · exact q)
    obtain ⟨x', e2⟩ := dM_14 (N := N) (k := kr) (pb := pb) (L := L) (x := x) (y := y) (X := X) (i := j) hN hu hM hc an kn jb hXm hj hyj
    exact ⟨_, x', dC_14 hN hu' hc hkn q2 h7 hl hXc hp kn hj hlg, e2, inv_14 h hn ft hc hkn hKd hKa q2 q1 gap, rfl⟩
  ·
    have hp := h.hp (by
      rcases Nat.eq_zero_or_pos (loC (cd u) j) with q | q
      · have := gap 0 (by omega) (by decide)
        rw [(show ∀ c, c < 29 → isL c 0 = true by decide) _ hc] at this
        cases this
      · exact q)
    obtain ⟨x', e2⟩ := dM_15 (N := N) (k := kr) (pb := pb) (L := L) (x := x) (y := y) (X := X) (i := j) hN hu hM hc an kn jb hXm hj hyj
    exact ⟨_, x', dC_15 hN hu' hc hkn q2 h7 hl hXc hp kn hj hlg, e2, inv_15 h hn ft hc hkn hKd hKa q2 q1 gap, rfl⟩
  ·
    have hp := h.hp (by
      rcases Nat.eq_zero_or_pos (loC (cd u) j) with q | q
      · have := gap 0 (by omega) (by decide)
        rw [(show ∀ c, c < 29 → isL c 0 = true by decide) _ hc] at this
        cases this
      · exact q)
    obtain ⟨x', e2⟩ := dM_16 (N := N) (k := kr) (pb := pb) (L := L) (x := x) (y := y) (X := X) (i := j) hN hu hM hc an kn jb hXm hj hyj
    exact ⟨_, x', dC_16 hN hu' hc hkn q2 h7 hl hXc hp kn hj hlg, e2, inv_16 h hn ft hc hkn hKd hKa q2 q1 gap, rfl⟩
  ·
    have hp := h.hp (by
      rcases Nat.eq_zero_or_pos (loC (cd u) j) with q | q
      · have := gap 0 (by omega) (by decide)
        rw [(show ∀ c, c < 29 → isL c 0 = true by decide) _ hc] at this
        cases this
      · exact q)
    obtain ⟨x', e2⟩ := dM_17 (N := N) (k := kr) (pb := pb) (L := L) (x := x) (y := y) (X := X) (i := j) hN hu hM hc an kn jb hXm hj hyj
    exact ⟨_, x', dC_17 hN hu' hc hkn q2 h7 hl hXc hp kn hj hlg, e2, inv_17 h hn ft hc hkn hKd hKa q2 q1 gap, rfl⟩
  ·
    have hp := h.hp (by
      rcases Nat.eq_zero_or_pos (loC (cd u) j) with q | q
      · have := gap 0 (by omega) (by decide)
        rw [(show ∀ c, c < 29 → isL c 0 = true by decide) _ hc] at this
        cases this
      · exact q)
    obtain ⟨x', e2⟩ := dM_18 (N := N) (k := kr) (pb := pb) (L := L) (x := x) (y := y) (X := X) (i := j) hN hu hM hc an kn jb hXm hj hyj
    exact ⟨_, x', dC_18 hN hu' hc hkn q2 h7 hl hXc hp kn hj hlg, e2, inv_18 h hn ft hc hkn hKd hKa q2 q1 gap, rfl⟩
  ·
    have hp := h.hp (by
      rcases Nat.eq_zero_or_pos (loC (cd u) j) with q | q
      · have := gap 0 (by omega) (by decide)
        rw [(show ∀ c, c < 29 → isL c 0 = true by decide) _ hc] at this
        cases this
      · exact q)
    obtain ⟨x', e2⟩ := dM_19 (N := N) (k := kr) (pb := pb) (L := L) (x := x) (y := y) (X := X) (i := j) hN hu hM hc an kn jb hXm hj hyj
    exact ⟨_, x', dC_19 hN hu' hc hkn q2 h7 hl hXc hp kn hj hlg, e2, inv_19 h hn ft hc hkn hKd hKa q2 q1 gap, rfl⟩
  ·
    have hp := h.hp (by
      rcases Nat.eq_zero_or_pos (loC (cd u) j) with q | q
      · have := gap 0 (by omega) (by decide)
        rw [(show ∀ c, c < 29 → isL c 0 = true by decide) _ hc] at this
        cases this
      · exact q)
    obtain ⟨x', e2⟩ := dM_20 (N := N) (k := kr) (pb := pb) (L := L) (x := x) (y := y) (X := X) (i := j) hN hu hM hc an kn jb hXm hj hyj
    exact ⟨_, x', dC_20 hN hu' hc hkn q2 h7 hl hXc hp kn hj hlg, e2, inv_20 h hn ft hc hkn hKd hKa q2 q1 gap, rfl⟩
  ·
    have hp := h.hp (by
      rcases Nat.eq_zero_or_pos (loC (cd u) j) with q | q
      · have := gap 0 (by omega) (by decide)
        rw [(show ∀ c, c < 29 → isL c 0 = true by decide) _ hc] at this
        cases this
      · exact q)
    obtain ⟨x', e2⟩ := dM_21 (N := N) (k := kr) (pb := pb) (L := L) (x := x) (y := y) (X := X) (i := j) hN hu hM hc an kn jb hXm hj hyj
    exact ⟨_, x', dC_21 hN hu' hc hkn q2 h7 hl hXc hp kn hj hlg, e2, inv_21 h hn ft hc hkn hKd hKa q2 q1 gap, rfl⟩
  ·
    have hp := h.hp (by
      rcases Nat.eq_zero_or_pos (loC (cd u) j) with q | q
      · have := gap 0 (by omega) (by decide)
        rw [(show ∀ c, c < 29 → isL c 0 = true by decide) _ hc] at this
        cases this
      · exact q)
    obtain ⟨x', e2⟩ := dM_22 (N := N) (k := kr) (pb := pb) (L := L) (x := x) (y := y) (X := X) (i := j) hN hu hM hc an kn jb hXm hj hyj
    exact ⟨_, x', dC_22 hN hu' hc hkn q2 h7 hl hXc hp kn hj hlg, e2, inv_22 h hn ft hc hkn hKd hKa q2 q1 gap, rfl⟩
  ·
    have hp := h.hp (by
      rcases Nat.eq_zero_or_pos (loC (cd u) j) with q | q
      · have := gap 0 (by omega) (by decide)
        rw [(show ∀ c, c < 29 → isL c 0 = true by decide) _ hc] at this
        cases this
      · exact q)
    obtain ⟨x', e2⟩ := dM_23 (N := N) (k := kr) (pb := pb) (L := L) (x := x) (y := y) (X := X) (i := j) hN hu hM hc an kn jb hXm hj hyj
    exact ⟨_, x', dC_23 hN hu' hc hkn q2 h7 hl hXc hp kn hj hlg, e2, inv_23 h hn ft hc hkn hKd hKa q2 q1 gap, rfl⟩
  ·
    have hp := h.hp (by
      rcases Nat.eq_zero_or_pos (loC (cd u) j) with q | q
      · have := gap 0 (by omega) (by decide)
        rw [(show ∀ c, c < 29 → isL c 0 = true by decide) _ hc] at this
        cases this
      · exact q)
    obtain ⟨x', e2⟩ := dM_24 (N := N) (k := kr) (pb := pb) (L := L) (x := x) (y := y) (X := X) (i := j) hN hu hM hc an kn jb hXm hj hyj
    exact ⟨_, x', dC_24 hN hu' hc hkn q2 h7 hl hXc hp kn hj hlg, e2, inv_24 h hn ft hc hkn hKd hKa q2 q1 gap, rfl⟩
  ·
    have hp := h.hp (by
      rcases Nat.eq_zero_or_pos (loC (cd u) j) with q | q
      · have := gap 0 (by omega) (by decide)
        rw [(show ∀ c, c < 29 → isL c 0 = true by decide) _ hc] at this
        cases this
      · exact q)
    obtain ⟨x', e2⟩ := dM_25 (N := N) (k := kr) (pb := pb) (L := L) (x := x) (y := y) (X := X) (i := j) hN hu hM hc an kn jb hXm hj hyj
    exact ⟨_, x', dC_25 hN hu' hc hkn q2 h7 hl hXc hp kn hj hlg, e2, inv_25 h hn ft hc hkn hKd hKa q2 q1 gap, rfl⟩
  ·
    have hp := h.hp (by
      rcases Nat.eq_zero_or_pos (loC (cd u) j) with q | q
      · have := gap 0 (by omega) (by decide)
        rw [(show ∀ c, c < 29 → isL c 0 = true by decide) _ hc] at this
        cases this
      · exact q)
    obtain ⟨x', e2⟩ := dM_26 (N := N) (k := kr) (pb := pb) (L := L) (x := x) (y := y) (X := X) (i := j) hN hu hM hc an kn jb hXm hj hyj
    exact ⟨_, x', dC_26 hN hu' hc hkn q2 h7 hl hXc hp kn hj hlg, e2, inv_26 h hn ft hc hkn hKd hKa q2 q1 gap, rfl⟩
  ·
    have hp := h.hp (by
      rcases Nat.eq_zero_or_pos (loC (cd u) j) with q | q
      · have := gap 0 (by omega) (by decide)
        rw [(show ∀ c, c < 29 → isL c 0 = true by decide) _ hc] at this
        cases this
      · exact q)
    obtain ⟨x', e2⟩ := dM_27 (N := N) (k := kr) (pb := pb) (L := L) (x := x) (y := y) (X := X) (i := j) hN hu hM hc an kn jb hXm hj hyj
    exact ⟨_, x', dC_27 hN hu' hc hkn q2 h7 hl hXc hp kn hj hlg, e2, inv_27 h hn ft hc hkn hKd hKa q2 q1 gap, rfl⟩
  ·
    have hp := h.hp (by
      rcases Nat.eq_zero_or_pos (loC (cd u) j) with q | q
      · have := gap 0 (by omega) (by decide)
        rw [(show ∀ c, c < 29 → isL c 0 = true by decide) _ hc] at this
        cases this
      · exact q)
    obtain ⟨x', e2⟩ := dM_28 (N := N) (k := kr) (pb := pb) (L := L) (x := x) (y := y) (X := X) (i := j) hN hu hM hc an kn jb hXm hj hyj
    exact ⟨_, x', dC_28 hN hu' hc hkn q2 h7 hl hXc hp kn hj hlg, e2, inv_28 h hn ft hc hkn hKd hKa q2 q1 gap, rfl⟩
theorem mk_all {Kd Ka Kn : Nat} (hN : 5000 ≤ N) (hn : n ≤ 20) (hu : u < 20) (hc : cd u < 29) (hkn : kin (cd u)) (ft : FT n cd u X) (hM : CM m0) (hKd : Kd + 31 ≤ 1500) (hKa : Ka ≤ 900) (hKn : Kn + 31 < 2 ^ 20) (h7 : c0 (U u) 7 = nI (chn (cd u)).length) (hl : ∀ i, i < (chn (cd u)).length → c0 (U u + 2) i = nI ((chn (cd u)).getD i 0)) (hXc : ∀ i, i < mny (cd u) → c0 (U u) (4 + i) = X i) (hXm : ∀ j, j < 3 → m0 36 (3 * u + j) = X j) (hy : ∀ i, i < (chn (cd u)).length → y i = nI ((chn (cd u)).getD i 0)) : ∀ (d j kc kr : Nat) (S : MI) (x : Nat → Int32), j + d = (chn (cd u)).length → d < kc → d < kr → INV cd u X (loC (cd u) j) Kd Ka Kn S →
    ∃ x', LF_X10_make_7 N kc 1 (U u) (nI j) (cS u S c0) L (GRf pb) = some (cS u (((chn (cd u)).drop j).foldl (fun S l => layN u (cd u) X l S) S) c0) ∧ LF_X12_make_122 N kr 24 (nI u) (nI (chn (cd u)).length) (nI j) (mS u S m0 x y) L (GRf pb) = some (mS u (((chn (cd u)).drop j).foldl (fun S l => layN u (cd u) X l S) S) m0 x' y) ∧ INV cd u X (loC (cd u) (chn (cd u)).length) Kd Ka Kn (((chn (cd u)).drop j).foldl (fun S l => layN u (cd u) X l S) S) := by
  have h5 := chn_len (cd u) hc
  intro d
  induction d with
  | zero =>
    intro j kc kr S x hj hkc hkr h
    obtain ⟨kc, rfl⟩ : ∃ z, kc = z + 1 := ⟨kc - 1, by omega⟩
    obtain ⟨kr, rfl⟩ : ∃ z, kr = z + 1 := ⟨kr - 1, by omega⟩
    have hj : j = (chn (cd u)).length := by omega
    rw [hj] at h ⊢
    have e : U u = 58 + 4 * u := rfl
    have e7 : cS u S c0 (U u) 7 = nI (chn (cd u)).length := by rw [cS_o (by omega) (by omega) (by omega)]; exact h7
    have z7 : (nI (chn (cd u)).length ≤ nI (chn (cd u)).length) = True := eq_true (nI_le (Nat.le_refl _) (by omega))
    refine ⟨x, ?_, ?_, ?_⟩
    · rw [List.drop_length]; simp only [LF_X10_make_7, e7, z7, if_true, List.foldl]
    · rw [List.drop_length]; simp only [LF_X12_make_122, z7, if_true, List.foldl]
    · rw [List.drop_length]; exact h
  | succ d ih =>
    intro j kc kr S x hj hkc hkr h
    obtain ⟨kc, rfl⟩ : ∃ z, kc = z + 1 := ⟨kc - 1, by omega⟩
    obtain ⟨kr, rfl⟩ : ∃ z, kr = z + 1 := ⟨kr - 1, by omega⟩
    have hjl : j < (chn (cd u)).length := by omega
    obtain ⟨S', x', e1, e2, h', e3⟩ := mk_step (kc := kc) (kr := kr) (pb := pb) (L := L) (x := x) hN hn hu hc hkn ft hM hKd hKa hKn h7 hl hXc hXm hy hjl h
    obtain ⟨x2, i1, i2, i3⟩ := ih (j + 1) kc kr S' x' (by omega) (by omega) (by omega) h'
    have ed : ((chn (cd u)).drop j).foldl (fun S l => layN u (cd u) X l S) S = ((chn (cd u)).drop (j + 1)).foldl (fun S l => layN u (cd u) X l S) S' := by
      rw [List.drop_eq_getElem_cons hjl, List.foldl_cons, e3, List.getD_eq_getElem?_getD, List.getElem?_eq_getElem hjl]
      rfl
    rw [ed]
    exact ⟨x2, e1.trans i1, e2.trans i2, i3⟩
end P11
