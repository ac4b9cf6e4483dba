/-! T3: how a unit is made: the reference's side -/
def mS (u : Nat) (S m0 : MI) (x y : Nat → Int32) : MI := fun o p => if o = 41 then x p else if o = 42 then y p else if o = 37 ∧ 65 * u ≤ p ∧ p < 65 * u + 65 then S 0 (p - 65 * u) else if o = 24 ∧ 25 ≤ p ∧ p ≤ 28 then S 1 (p - 25) else if 38 ≤ o ∧ o ≤ 40 ∧ p < 100 then S (o - 36) p else m0 o p
theorem mS_w {u k : Nat} {S m0 : MI} {x y : Nat → Int32} {v : Int32} (hk : k < 65) : uI (mS u S m0 x y) 37 (65 * u + k) v = mS u (uI S 0 k v) m0 x y := by
  funext o p
  by_cases z : o = 37 ∧ p = 65 * u + k
  · obtain ⟨rfl, rfl⟩ := z
    rw [uI_same]
    unfold mS
    rw [if_neg (by omega), if_neg (by omega), if_pos (by omega), show 65 * u + k - 65 * u = k by omega, uI_same]
  · rw [uI_at z]
    unfold mS
    by_cases z1 : o = 37 ∧ 65 * u ≤ p ∧ p < 65 * u + 65
    · rw [if_neg (show ¬ o = 41 by omega), if_neg (show ¬ o = 42 by omega), if_pos z1, if_neg (show ¬ o = 41 by omega), if_neg (show ¬ o = 42 by omega), if_pos z1, uI_at (show ¬ (0 = 0 ∧ p - 65 * u = k) by omega)]
    · rw [if_neg z1, if_neg z1, uI_at (show ¬ (1 = 0 ∧ _) by omega)]
      by_cases z2 : 38 ≤ o ∧ o ≤ 40 ∧ p < 100
      · rw [if_pos z2, if_pos z2, uI_at (by omega)]
      · rw [if_neg z2, if_neg z2]
theorem mS_s {u j : Nat} {S m0 : MI} {x y : Nat → Int32} {v : Int32} (hj : j ≤ 3) : uI (mS u S m0 x y) 24 (25 + j) v = mS u (uI S 1 j v) m0 x y := by
  funext o p
  by_cases z : o = 24 ∧ p = 25 + j
  · obtain ⟨rfl, rfl⟩ := z
    rw [uI_same]
    unfold mS
    rw [if_neg (by omega), if_neg (by omega), if_neg (by omega), if_pos (by omega), show 25 + j - 25 = j by omega, uI_same]
  · rw [uI_at z]
    unfold mS
    rw [uI_at (show ¬ (0 = 1 ∧ _) by omega)]
    by_cases z1 : o = 24 ∧ 25 ≤ p ∧ p ≤ 28
    · rw [if_neg (show ¬ o = 41 by omega), if_neg (show ¬ o = 42 by omega), if_neg (show ¬ (o = 37 ∧ 65 * u ≤ p ∧ p < 65 * u + 65) by omega), if_pos z1, if_neg (show ¬ o = 41 by omega), if_neg (show ¬ o = 42 by omega), if_neg (show ¬ (o = 37 ∧ 65 * u ≤ p ∧ p < 65 * u + 65) by omega), if_pos z1, uI_at (by omega)]
    · rw [if_neg z1, if_neg z1]
      by_cases z2 : 38 ≤ o ∧ o ≤ 40 ∧ p < 100
      · rw [if_pos z2, if_pos z2, uI_at (by omega)]
      · rw [if_neg z2, if_neg z2]
theorem mS_n {u i j : Nat} {S m0 : MI} {x y : Nat → Int32} {v : Int32} (hj : j < 3) (hi : i < 100) : uI (mS u S m0 x y) (38 + j) i v = mS u (uI S (2 + j) i v) m0 x y := by
  funext o p
  by_cases z : o = 38 + j ∧ p = i
  · obtain ⟨rfl, rfl⟩ := z
    rw [uI_same]
    unfold mS
    rw [if_neg (by omega), if_neg (by omega), if_neg (by omega), if_neg (by omega), if_pos (by omega), show 38 + j - 36 = 2 + j by omega, uI_same]
  · rw [uI_at z]
    unfold mS
    rw [uI_at (show ¬ (0 = 2 + j ∧ _) by omega), uI_at (show ¬ (1 = 2 + j ∧ _) by omega)]
    by_cases z2 : 38 ≤ o ∧ o ≤ 40 ∧ p < 100
    · rw [if_pos z2, if_pos z2, uI_at (by omega)]
    · rw [if_neg z2, if_neg z2]
theorem mS_r {u k : Nat} {S m0 : MI} {x y : Nat → Int32} (hk : k < 65) : mS u S m0 x y 37 (65 * u + k) = S 0 k := by
  unfold mS
  rw [if_neg (by omega), if_neg (by omega), if_pos (by omega), show 65 * u + k - 65 * u = k by omega]
theorem mS_c {u j : Nat} {S m0 : MI} {x y : Nat → Int32} (hj : j ≤ 3) : mS u S m0 x y 24 (25 + j) = S 1 j := by
  unfold mS
  rw [if_neg (by omega), if_neg (by omega), if_neg (by omega), if_pos (by omega), show 25 + j - 25 = j by omega]
theorem mS_o {u o p : Nat} {S m0 : MI} {x y : Nat → Int32} (h1 : ¬ (o = 37 ∧ 65 * u ≤ p ∧ p < 65 * u + 65)) (h2 : ¬ (o = 24 ∧ 25 ≤ p ∧ p ≤ 28)) (h3 : ¬ (38 ≤ o ∧ o ≤ 40 ∧ p < 100)) (h4 : o ≠ 41) (h5 : o ≠ 42) : mS u S m0 x y o p = m0 o p := by
  unfold mS
  rw [if_neg h4, if_neg h5, if_neg h1, if_neg h2, if_neg h3]
def AN (c : Nat) (S : MI) : Prop := S 0 0 = nI c ∧ nn (S 0 49) 100000 ∧ nn (S 0 59) 100000
theorem AN_w {c k : Nat} {S : MI} {v : Int32} (h1 : k ≠ 0) (h2 : k ≠ 49) (h3 : k ≠ 59) : AN c (uI S 0 k v) = AN c S := by
  unfold AN
  rw [uI_at (by omega), uI_at (by omega), uI_at (by omega)]
theorem AN_1 {c j : Nat} {S : MI} {v : Int32} : AN c (uI S 1 j v) = AN c S := by
  unfold AN
  rw [uI_at (by omega), uI_at (by omega), uI_at (by omega)]
theorem rr0 {S : MI} {j k : Nat} {v : Int32} : uI S 1 j v 0 k = S 0 k := uI_at (by omega)
theorem rr1 {S : MI} {j k : Nat} {v : Int32} : uI S 0 k v 1 j = S 1 j := uI_at (by omega)
theorem rrk {S : MI} {j k : Nat} {v : Int32} (h : k ≠ j) : uI S 0 j v 0 k = S 0 k := uI_at (fun z => h z.2)
theorem rrj {S : MI} {j k : Nat} {v : Int32} (h : k ≠ j) : uI S 1 j v 1 k = S 1 k := uI_at (fun z => h z.2)
theorem md_iRn {x : Int32} {d : Nat} (h : nn x 2000000000) (h0 : 0 < d) (hd : d < 2 ^ 31) : md x (nI d) = iR x (nI d) := by
  obtain ⟨k, k1, rfl⟩ := h
  exact md_iR (by omega) h0 hd
theorem mx1M {v : Int32} : (if 1 ≤ v then some v else some 1) = some (mx1 v) := by
  unfold mx1
  by_cases z : 1 < v
  · rw [if_pos z, if_pos (Int32.le_of_lt z)]
  · rw [if_neg z]
    by_cases z2 : 1 ≤ v
    · rw [if_pos z2, Int32.le_antisymm (Int32.not_lt.mp z) z2]
    · rw [if_neg z2]
def ax (N u q pb : Nat) (S m0 : MI) (x y : Nat → Int32) (L : ML) : Nat → Int32 := fun p => match F_X12_answer N 24 (nI u) (nI q) (mS u S m0 x y) L (GRf pb) with
  | some z => z.2 41 p
  | none => 0
def JB (S : MI) : Prop := nn (S 1 0) 100000 ∧ nn (S 0 2) 100000 ∧ nn (S 0 4) 100000 ∧ nn (S 0 49) 100000 ∧ nn (S 0 53) 100000 ∧ nn (S 0 54) 100000
section P10
variable {N u c : Nat} {pb : Nat} {L : ML} {S m0 : MI} {X x y : Nat → Int32}
theorem mset {k : Nat} {v : Int32} (hu : u < 20) (hk : k < 65) : F_X12_set 24 (nI u) (nI k) v (mS u S m0 x y) L (GRf pb) = some (mS u (uI S 0 k v) m0 x y) := by
  rw [set_ok hu hk, mS_w hk]
theorem mget {k : Nat} (hu : u < 20) (hk : k < 65) : F_X12_get 24 (nI u) (nI k) (mS u S m0 x y) L (GRf pb) = some (S 0 k) := by
  rw [get_ok hu hk, mS_r hk]
theorem mgrow {k : Nat} {v : Int32} (hu : u < 20) (hk : k < 65) : F_X12_grow 24 (nI u) (nI k) v (mS u S m0 x y) L (GRf pb) = some (mS u (uI S 0 k (S 0 k + v)) m0 x y) := by
  rw [grow_ok hu hk, mS_w hk, mS_r hk]
theorem mdraw : F_X12_draw 24 (mS u S m0 x y) L (GRf pb) = some (uI S 1 0 (S 1 0 + 1) 1 0, mS u (uI S 1 0 (S 1 0 + 1)) m0 x y) := by
  have e1 : mS u S m0 x y 24 25 = S 1 0 := mS_c (j := 0) (by decide)
  have e2 : ∀ v, uI (mS u S m0 x y) 24 25 v = mS u (uI S 1 0 v) m0 x y := fun v => mS_s (j := 0) (by decide)
  have e3 : ∀ v, mS u (uI S 1 0 v) m0 x y 24 25 = uI S 1 0 v 1 0 := fun v => mS_c (j := 0) (by decide)
  simp only [F_X12_draw, ck_24, if_true, wre, e1, e2, e3]
theorem mS_26 : mS u S m0 x y 24 26 = S 1 1 := mS_c (j := 1) (by decide)
theorem mS_27 : mS u S m0 x y 24 27 = S 1 2 := mS_c (j := 2) (by decide)
theorem mS_s26 {v : Int32} : uI (mS u S m0 x y) 24 26 v = mS u (uI S 1 1 v) m0 x y := mS_s (j := 1) (by decide)
theorem mS_s27 {v : Int32} : uI (mS u S m0 x y) 24 27 v = mS u (uI S 1 2 v) m0 x y := mS_s (j := 2) (by decide)
theorem mnote {l z : Int32} (hk : KN S) : F_X12_noted 24 (nI u) l z (mS u S m0 x y) L (GRf pb) = some (mS u (jotS u l z S) m0 x y) := by
  obtain ⟨k, k1, k2⟩ := hk
  have r7 : ∀ (S : MI), mS u S m0 x y 24 28 = S 1 3 := fun S => mS_c (j := 3) (by decide)
  have s7 : ∀ (S : MI) v, uI (mS u S m0 x y) 24 28 v = mS u (uI S 1 3 v) m0 x y := fun S v => mS_s (j := 3) (by decide)
  have zz : ((100 : Int32) ≤ nI k) = (100 ≤ k) := propext (nI_leI (a := 100) (by decide) (by omega))
  unfold jotS
  rw [k2, vN, nI_clamp (by omega)]
  by_cases q : k < 100
  · have w0 : ∀ (S : MI) v, wi (mS u S m0 x y) 38 (nI k) v = some (mS u (uI S 2 k v) m0 x y) := fun S v => by
      rw [wi_nI ln_38 q (by decide)]; exact congrArg some (mS_n (j := 0) (by decide) q)
    have w1 : ∀ (S : MI) v, wi (mS u S m0 x y) 39 (nI k) v = some (mS u (uI S 3 k v) m0 x y) := fun S v => by
      rw [wi_nI ln_39 q (by decide)]; exact congrArg some (mS_n (j := 1) (by decide) q)
    have w2 : ∀ (S : MI) v, wi (mS u S m0 x y) 40 (nI k) v = some (mS u (uI S 4 k v) m0 x y) := fun S v => by
      rw [wi_nI ln_40 q (by decide)]; exact congrArg some (mS_n (j := 2) (by decide) q)
    have q1 : ∀ a, uI S 2 k a 1 3 = nI k := fun a => by rw [uI_at (by omega)]; exact k2
    have q2 : ∀ a b, uI (uI S 2 k a) 3 k b 1 3 = nI k := fun a b => by rw [uI_at (by omega), uI_at (by omega)]; exact k2
    have r3 : ∀ a b d, uI (uI (uI S 2 k a) 3 k b) 4 k d 1 3 = nI k := fun a b d => by rw [uI_at (by omega), uI_at (by omega), uI_at (by omega)]; exact k2
    simp only [F_X12_noted, ck_24, if_true, r7, k2, zz, if_neg (show ¬ 100 ≤ k by omega), rf_24_29, bse, w0, rf_24_30, q1, w1, rf_24_31, q2, w2, b1e, wre, s7, r3, if_pos q]
  · simp only [F_X12_noted, ck_24, if_true, r7, k2, zz, if_pos (show 100 ≤ k by omega), b1e, wre, s7, if_neg q]
theorem mans {q : Nat} (hN : 5000 ≤ N) (hu : u < 20) (hM : CM m0) (hc : c < 29) (hq : q < 6) (an : AN c S) : F_X12_answer N 24 (nI u) (nI q) (mS u S m0 x y) L (GRf pb) = some (ansV q c (S 0), mS u S m0 (ax N u q pb S m0 x y L) y) := by
  have r : ∀ k, k < 65 → mS u S m0 x y 37 (65 * u + k) = S 0 k := fun k hk => mS_r hk
  obtain ⟨m', e1, e2⟩ := ansM_ok (N := N) (pb := pb) (L := L) (u := u) (q := q) (c := c) (m := mS u S m0 x y) (by omega) (fun j hj => by rw [mS_o (by omega) (by omega) (by omega) (by omega) (by omega)]; exact hM j hj) hu hq hc ((r 0 (by decide)).trans an.1) (by rw [r 49 (by decide)]; exact an.2.1) (by rw [r 59 (by decide)]; exact an.2.2)
  have e3 : ansV q c (Pm (mS u S m0 x y) u) = ansV q c (S 0) := ansV_congr hc (fun k hk _ => r k hk)
  rw [e3] at e1
  have e4 : m' = mS u S m0 (ax N u q pb S m0 x y L) y := by
    funext o p
    by_cases z : o = 41
    · subst z
      have : mS u S m0 (ax N u q pb S m0 x y L) y 41 p = ax N u q pb S m0 x y L p := by unfold mS; rw [if_pos rfl]
      rw [this]
      unfold ax
      rw [e1]
    · rw [e2 o p z]
      unfold mS
      rw [if_neg z, if_neg z]
  rw [e1, e4]
theorem mst_0 {v : Int32} (hu : u < 20) : F_X12_set 24 (nI u) (0 : Int32) v (mS u S m0 x y) L (GRf pb) = some (mS u (uI S 0 0 v) m0 x y) := mset (k := 0) hu (by decide)
theorem mgt_0 (hu : u < 20) : F_X12_get 24 (nI u) (0 : Int32) (mS u S m0 x y) L (GRf pb) = some (S 0 0) := mget (k := 0) hu (by decide)
theorem mst_1 {v : Int32} (hu : u < 20) : F_X12_set 24 (nI u) (1 : Int32) v (mS u S m0 x y) L (GRf pb) = some (mS u (uI S 0 1 v) m0 x y) := mset (k := 1) hu (by decide)
theorem mgt_1 (hu : u < 20) : F_X12_get 24 (nI u) (1 : Int32) (mS u S m0 x y) L (GRf pb) = some (S 0 1) := mget (k := 1) hu (by decide)
theorem ANw_1 {v : Int32} : AN c (uI S 0 1 v) = AN c S := AN_w (by decide) (by decide) (by decide)
theorem mst_2 {v : Int32} (hu : u < 20) : F_X12_set 24 (nI u) (2 : Int32) v (mS u S m0 x y) L (GRf pb) = some (mS u (uI S 0 2 v) m0 x y) := mset (k := 2) hu (by decide)
theorem mgt_2 (hu : u < 20) : F_X12_get 24 (nI u) (2 : Int32) (mS u S m0 x y) L (GRf pb) = some (S 0 2) := mget (k := 2) hu (by decide)
theorem ANw_2 {v : Int32} : AN c (uI S 0 2 v) = AN c S := AN_w (by decide) (by decide) (by decide)
theorem mst_3 {v : Int32} (hu : u < 20) : F_X12_set 24 (nI u) (3 : Int32) v (mS u S m0 x y) L (GRf pb) = some (mS u (uI S 0 3 v) m0 x y) := mset (k := 3) hu (by decide)
theorem mgt_3 (hu : u < 20) : F_X12_get 24 (nI u) (3 : Int32) (mS u S m0 x y) L (GRf pb) = some (S 0 3) := mget (k := 3) hu (by decide)
theorem ANw_3 {v : Int32} : AN c (uI S 0 3 v) = AN c S := AN_w (by decide) (by decide) (by decide)
theorem mst_4 {v : Int32} (hu : u < 20) : F_X12_set 24 (nI u) (4 : Int32) v (mS u S m0 x y) L (GRf pb) = some (mS u (uI S 0 4 v) m0 x y) := mset (k := 4) hu (by decide)
theorem mgt_4 (hu : u < 20) : F_X12_get 24 (nI u) (4 : Int32) (mS u S m0 x y) L (GRf pb) = some (S 0 4) := mget (k := 4) hu (by decide)
theorem ANw_4 {v : Int32} : AN c (uI S 0 4 v) = AN c S := AN_w (by decide) (by decide) (by decide)
theorem mst_5 {v : Int32} (hu : u < 20) : F_X12_set 24 (nI u) (5 : Int32) v (mS u S m0 x y) L (GRf pb) = some (mS u (uI S 0 5 v) m0 x y) := mset (k := 5) hu (by decide)
theorem mgt_5 (hu : u < 20) : F_X12_get 24 (nI u) (5 : Int32) (mS u S m0 x y) L (GRf pb) = some (S 0 5) := mget (k := 5) hu (by decide)
theorem ANw_5 {v : Int32} : AN c (uI S 0 5 v) = AN c S := AN_w (by decide) (by decide) (by decide)
theorem mst_6 {v : Int32} (hu : u < 20) : F_X12_set 24 (nI u) (6 : Int32) v (mS u S m0 x y) L (GRf pb) = some (mS u (uI S 0 6 v) m0 x y) := mset (k := 6) hu (by decide)
theorem mgt_6 (hu : u < 20) : F_X12_get 24 (nI u) (6 : Int32) (mS u S m0 x y) L (GRf pb) = some (S 0 6) := mget (k := 6) hu (by decide)
theorem ANw_6 {v : Int32} : AN c (uI S 0 6 v) = AN c S := AN_w (by decide) (by decide) (by decide)
theorem mst_7 {v : Int32} (hu : u < 20) : F_X12_set 24 (nI u) (7 : Int32) v (mS u S m0 x y) L (GRf pb) = some (mS u (uI S 0 7 v) m0 x y) := mset (k := 7) hu (by decide)
theorem mgt_7 (hu : u < 20) : F_X12_get 24 (nI u) (7 : Int32) (mS u S m0 x y) L (GRf pb) = some (S 0 7) := mget (k := 7) hu (by decide)
theorem ANw_7 {v : Int32} : AN c (uI S 0 7 v) = AN c S := AN_w (by decide) (by decide) (by decide)
theorem mst_8 {v : Int32} (hu : u < 20) : F_X12_set 24 (nI u) (8 : Int32) v (mS u S m0 x y) L (GRf pb) = some (mS u (uI S 0 8 v) m0 x y) := mset (k := 8) hu (by decide)
theorem mgt_8 (hu : u < 20) : F_X12_get 24 (nI u) (8 : Int32) (mS u S m0 x y) L (GRf pb) = some (S 0 8) := mget (k := 8) hu (by decide)
theorem ANw_8 {v : Int32} : AN c (uI S 0 8 v) = AN c S := AN_w (by decide) (by decide) (by decide)
theorem mst_9 {v : Int32} (hu : u < 20) : F_X12_set 24 (nI u) (9 : Int32) v (mS u S m0 x y) L (GRf pb) = some (mS u (uI S 0 9 v) m0 x y) := mset (k := 9) hu (by decide)
theorem mgt_9 (hu : u < 20) : F_X12_get 24 (nI u) (9 : Int32) (mS u S m0 x y) L (GRf pb) = some (S 0 9) := mget (k := 9) hu (by decide)
theorem ANw_9 {v : Int32} : AN c (uI S 0 9 v) = AN c S := AN_w (by decide) (by decide) (by decide)
theorem mst_10 {v : Int32} (hu : u < 20) : F_X12_set 24 (nI u) (10 : Int32) v (mS u S m0 x y) L (GRf pb) = some (mS u (uI S 0 10 v) m0 x y) := mset (k := 10) hu (by decide)
theorem mgt_10 (hu : u < 20) : F_X12_get 24 (nI u) (10 : Int32) (mS u S m0 x y) L (GRf pb) = some (S 0 10) := mget (k := 10) hu (by decide)
theorem ANw_10 {v : Int32} : AN c (uI S 0 10 v) = AN c S := AN_w (by decide) (by decide) (by decide)
theorem mst_11 {v : Int32} (hu : u < 20) : F_X12_set 24 (nI u) (11 : Int32) v (mS u S m0 x y) L (GRf pb) = some (mS u (uI S 0 11 v) m0 x y) := mset (k := 11) hu (by decide)
theorem mgt_11 (hu : u < 20) : F_X12_get 24 (nI u) (11 : Int32) (mS u S m0 x y) L (GRf pb) = some (S 0 11) := mget (k := 11) hu (by decide)
theorem ANw_11 {v : Int32} : AN c (uI S 0 11 v) = AN c S := AN_w (by decide) (by decide) (by decide)
theorem mst_13 {v : Int32} (hu : u < 20) : F_X12_set 24 (nI u) (13 : Int32) v (mS u S m0 x y) L (GRf pb) = some (mS u (uI S 0 13 v) m0 x y) := mset (k := 13) hu (by decide)
theorem mgt_13 (hu : u < 20) : F_X12_get 24 (nI u) (13 : Int32) (mS u S m0 x y) L (GRf pb) = some (S 0 13) := mget (k := 13) hu (by decide)
theorem ANw_13 {v : Int32} : AN c (uI S 0 13 v) = AN c S := AN_w (by decide) (by decide) (by decide)
theorem mst_14 {v : Int32} (hu : u < 20) : F_X12_set 24 (nI u) (14 : Int32) v (mS u S m0 x y) L (GRf pb) = some (mS u (uI S 0 14 v) m0 x y) := mset (k := 14) hu (by decide)
theorem mgt_14 (hu : u < 20) : F_X12_get 24 (nI u) (14 : Int32) (mS u S m0 x y) L (GRf pb) = some (S 0 14) := mget (k := 14) hu (by decide)
theorem ANw_14 {v : Int32} : AN c (uI S 0 14 v) = AN c S := AN_w (by decide) (by decide) (by decide)
theorem mst_15 {v : Int32} (hu : u < 20) : F_X12_set 24 (nI u) (15 : Int32) v (mS u S m0 x y) L (GRf pb) = some (mS u (uI S 0 15 v) m0 x y) := mset (k := 15) hu (by decide)
theorem mgt_15 (hu : u < 20) : F_X12_get 24 (nI u) (15 : Int32) (mS u S m0 x y) L (GRf pb) = some (S 0 15) := mget (k := 15) hu (by decide)
theorem ANw_15 {v : Int32} : AN c (uI S 0 15 v) = AN c S := AN_w (by decide) (by decide) (by decide)
theorem mst_16 {v : Int32} (hu : u < 20) : F_X12_set 24 (nI u) (16 : Int32) v (mS u S m0 x y) L (GRf pb) = some (mS u (uI S 0 16 v) m0 x y) := mset (k := 16) hu (by decide)
theorem mgt_16 (hu : u < 20) : F_X12_get 24 (nI u) (16 : Int32) (mS u S m0 x y) L (GRf pb) = some (S 0 16) := mget (k := 16) hu (by decide)
theorem ANw_16 {v : Int32} : AN c (uI S 0 16 v) = AN c S := AN_w (by decide) (by decide) (by decide)
theorem mst_17 {v : Int32} (hu : u < 20) : F_X12_set 24 (nI u) (17 : Int32) v (mS u S m0 x y) L (GRf pb) = some (mS u (uI S 0 17 v) m0 x y) := mset (k := 17) hu (by decide)
theorem mgt_17 (hu : u < 20) : F_X12_get 24 (nI u) (17 : Int32) (mS u S m0 x y) L (GRf pb) = some (S 0 17) := mget (k := 17) hu (by decide)
theorem ANw_17 {v : Int32} : AN c (uI S 0 17 v) = AN c S := AN_w (by decide) (by decide) (by decide)
theorem mst_18 {v : Int32} (hu : u < 20) : F_X12_set 24 (nI u) (18 : Int32) v (mS u S m0 x y) L (GRf pb) = some (mS u (uI S 0 18 v) m0 x y) := mset (k := 18) hu (by decide)
theorem mgt_18 (hu : u < 20) : F_X12_get 24 (nI u) (18 : Int32) (mS u S m0 x y) L (GRf pb) = some (S 0 18) := mget (k := 18) hu (by decide)
theorem ANw_18 {v : Int32} : AN c (uI S 0 18 v) = AN c S := AN_w (by decide) (by decide) (by decide)
theorem mst_19 {v : Int32} (hu : u < 20) : F_X12_set 24 (nI u) (19 : Int32) v (mS u S m0 x y) L (GRf pb) = some (mS u (uI S 0 19 v) m0 x y) := mset (k := 19) hu (by decide)
theorem mgt_19 (hu : u < 20) : F_X12_get 24 (nI u) (19 : Int32) (mS u S m0 x y) L (GRf pb) = some (S 0 19) := mget (k := 19) hu (by decide)
theorem ANw_19 {v : Int32} : AN c (uI S 0 19 v) = AN c S := AN_w (by decide) (by decide) (by decide)
theorem mst_20 {v : Int32} (hu : u < 20) : F_X12_set 24 (nI u) (20 : Int32) v (mS u S m0 x y) L (GRf pb) = some (mS u (uI S 0 20 v) m0 x y) := mset (k := 20) hu (by decide)
theorem mgt_20 (hu : u < 20) : F_X12_get 24 (nI u) (20 : Int32) (mS u S m0 x y) L (GRf pb) = some (S 0 20) := mget (k := 20) hu (by decide)
theorem ANw_20 {v : Int32} : AN c (uI S 0 20 v) = AN c S := AN_w (by decide) (by decide) (by decide)
theorem mst_21 {v : Int32} (hu : u < 20) : F_X12_set 24 (nI u) (21 : Int32) v (mS u S m0 x y) L (GRf pb) = some (mS u (uI S 0 21 v) m0 x y) := mset (k := 21) hu (by decide)
theorem mgt_21 (hu : u < 20) : F_X12_get 24 (nI u) (21 : Int32) (mS u S m0 x y) L (GRf pb) = some (S 0 21) := mget (k := 21) hu (by decide)
theorem ANw_21 {v : Int32} : AN c (uI S 0 21 v) = AN c S := AN_w (by decide) (by decide) (by decide)
theorem mst_22 {v : Int32} (hu : u < 20) : F_X12_set 24 (nI u) (22 : Int32) v (mS u S m0 x y) L (GRf pb) = some (mS u (uI S 0 22 v) m0 x y) := mset (k := 22) hu (by decide)
theorem mgt_22 (hu : u < 20) : F_X12_get 24 (nI u) (22 : Int32) (mS u S m0 x y) L (GRf pb) = some (S 0 22) := mget (k := 22) hu (by decide)
theorem ANw_22 {v : Int32} : AN c (uI S 0 22 v) = AN c S := AN_w (by decide) (by decide) (by decide)
theorem mst_23 {v : Int32} (hu : u < 20) : F_X12_set 24 (nI u) (23 : Int32) v (mS u S m0 x y) L (GRf pb) = some (mS u (uI S 0 23 v) m0 x y) := mset (k := 23) hu (by decide)
theorem mgt_23 (hu : u < 20) : F_X12_get 24 (nI u) (23 : Int32) (mS u S m0 x y) L (GRf pb) = some (S 0 23) := mget (k := 23) hu (by decide)
theorem ANw_23 {v : Int32} : AN c (uI S 0 23 v) = AN c S := AN_w (by decide) (by decide) (by decide)
theorem mst_24 {v : Int32} (hu : u < 20) : F_X12_set 24 (nI u) (24 : Int32) v (mS u S m0 x y) L (GRf pb) = some (mS u (uI S 0 24 v) m0 x y) := mset (k := 24) hu (by decide)
theorem mgt_24 (hu : u < 20) : F_X12_get 24 (nI u) (24 : Int32) (mS u S m0 x y) L (GRf pb) = some (S 0 24) := mget (k := 24) hu (by decide)
theorem ANw_24 {v : Int32} : AN c (uI S 0 24 v) = AN c S := AN_w (by decide) (by decide) (by decide)
theorem mst_25 {v : Int32} (hu : u < 20) : F_X12_set 24 (nI u) (25 : Int32) v (mS u S m0 x y) L (GRf pb) = some (mS u (uI S 0 25 v) m0 x y) := mset (k := 25) hu (by decide)
theorem mgt_25 (hu : u < 20) : F_X12_get 24 (nI u) (25 : Int32) (mS u S m0 x y) L (GRf pb) = some (S 0 25) := mget (k := 25) hu (by decide)
theorem ANw_25 {v : Int32} : AN c (uI S 0 25 v) = AN c S := AN_w (by decide) (by decide) (by decide)
theorem mst_26 {v : Int32} (hu : u < 20) : F_X12_set 24 (nI u) (26 : Int32) v (mS u S m0 x y) L (GRf pb) = some (mS u (uI S 0 26 v) m0 x y) := mset (k := 26) hu (by decide)
theorem mgt_26 (hu : u < 20) : F_X12_get 24 (nI u) (26 : Int32) (mS u S m0 x y) L (GRf pb) = some (S 0 26) := mget (k := 26) hu (by decide)
theorem ANw_26 {v : Int32} : AN c (uI S 0 26 v) = AN c S := AN_w (by decide) (by decide) (by decide)
theorem mst_27 {v : Int32} (hu : u < 20) : F_X12_set 24 (nI u) (27 : Int32) v (mS u S m0 x y) L (GRf pb) = some (mS u (uI S 0 27 v) m0 x y) := mset (k := 27) hu (by decide)
theorem mgt_27 (hu : u < 20) : F_X12_get 24 (nI u) (27 : Int32) (mS u S m0 x y) L (GRf pb) = some (S 0 27) := mget (k := 27) hu (by decide)
theorem ANw_27 {v : Int32} : AN c (uI S 0 27 v) = AN c S := AN_w (by decide) (by decide) (by decide)
theorem mst_28 {v : Int32} (hu : u < 20) : F_X12_set 24 (nI u) (28 : Int32) v (mS u S m0 x y) L (GRf pb) = some (mS u (uI S 0 28 v) m0 x y) := mset (k := 28) hu (by decide)
theorem mgt_28 (hu : u < 20) : F_X12_get 24 (nI u) (28 : Int32) (mS u S m0 x y) L (GRf pb) = some (S 0 28) := mget (k := 28) hu (by decide)
theorem ANw_28 {v : Int32} : AN c (uI S 0 28 v) = AN c S := AN_w (by decide) (by decide) (by decide)
theorem mst_29 {v : Int32} (hu : u < 20) : F_X12_set 24 (nI u) (29 : Int32) v (mS u S m0 x y) L (GRf pb) = some (mS u (uI S 0 29 v) m0 x y) := mset (k := 29) hu (by decide)
theorem mgt_29 (hu : u < 20) : F_X12_get 24 (nI u) (29 : Int32) (mS u S m0 x y) L (GRf pb) = some (S 0 29) := mget (k := 29) hu (by decide)
theorem ANw_29 {v : Int32} : AN c (uI S 0 29 v) = AN c S := AN_w (by decide) (by decide) (by decide)
theorem mst_30 {v : Int32} (hu : u < 20) : F_X12_set 24 (nI u) (30 : Int32) v (mS u S m0 x y) L (GRf pb) = some (mS u (uI S 0 30 v) m0 x y) := mset (k := 30) hu (by decide)
theorem mgt_30 (hu : u < 20) : F_X12_get 24 (nI u) (30 : Int32) (mS u S m0 x y) L (GRf pb) = some (S 0 30) := mget (k := 30) hu (by decide)
theorem ANw_30 {v : Int32} : AN c (uI S 0 30 v) = AN c S := AN_w (by decide) (by decide) (by decide)
theorem mst_31 {v : Int32} (hu : u < 20) : F_X12_set 24 (nI u) (31 : Int32) v (mS u S m0 x y) L (GRf pb) = some (mS u (uI S 0 31 v) m0 x y) := mset (k := 31) hu (by decide)
theorem mgt_31 (hu : u < 20) : F_X12_get 24 (nI u) (31 : Int32) (mS u S m0 x y) L (GRf pb) = some (S 0 31) := mget (k := 31) hu (by decide)
theorem ANw_31 {v : Int32} : AN c (uI S 0 31 v) = AN c S := AN_w (by decide) (by decide) (by decide)
theorem mst_32 {v : Int32} (hu : u < 20) : F_X12_set 24 (nI u) (32 : Int32) v (mS u S m0 x y) L (GRf pb) = some (mS u (uI S 0 32 v) m0 x y) := mset (k := 32) hu (by decide)
theorem mgt_32 (hu : u < 20) : F_X12_get 24 (nI u) (32 : Int32) (mS u S m0 x y) L (GRf pb) = some (S 0 32) := mget (k := 32) hu (by decide)
theorem ANw_32 {v : Int32} : AN c (uI S 0 32 v) = AN c S := AN_w (by decide) (by decide) (by decide)
theorem mst_33 {v : Int32} (hu : u < 20) : F_X12_set 24 (nI u) (33 : Int32) v (mS u S m0 x y) L (GRf pb) = some (mS u (uI S 0 33 v) m0 x y) := mset (k := 33) hu (by decide)
theorem mgt_33 (hu : u < 20) : F_X12_get 24 (nI u) (33 : Int32) (mS u S m0 x y) L (GRf pb) = some (S 0 33) := mget (k := 33) hu (by decide)
theorem ANw_33 {v : Int32} : AN c (uI S 0 33 v) = AN c S := AN_w (by decide) (by decide) (by decide)
theorem mst_34 {v : Int32} (hu : u < 20) : F_X12_set 24 (nI u) (34 : Int32) v (mS u S m0 x y) L (GRf pb) = some (mS u (uI S 0 34 v) m0 x y) := mset (k := 34) hu (by decide)
theorem mgt_34 (hu : u < 20) : F_X12_get 24 (nI u) (34 : Int32) (mS u S m0 x y) L (GRf pb) = some (S 0 34) := mget (k := 34) hu (by decide)
theorem ANw_34 {v : Int32} : AN c (uI S 0 34 v) = AN c S := AN_w (by decide) (by decide) (by decide)
theorem mst_35 {v : Int32} (hu : u < 20) : F_X12_set 24 (nI u) (35 : Int32) v (mS u S m0 x y) L (GRf pb) = some (mS u (uI S 0 35 v) m0 x y) := mset (k := 35) hu (by decide)
theorem mgt_35 (hu : u < 20) : F_X12_get 24 (nI u) (35 : Int32) (mS u S m0 x y) L (GRf pb) = some (S 0 35) := mget (k := 35) hu (by decide)
theorem ANw_35 {v : Int32} : AN c (uI S 0 35 v) = AN c S := AN_w (by decide) (by decide) (by decide)
theorem mst_36 {v : Int32} (hu : u < 20) : F_X12_set 24 (nI u) (36 : Int32) v (mS u S m0 x y) L (GRf pb) = some (mS u (uI S 0 36 v) m0 x y) := mset (k := 36) hu (by decide)
theorem mgt_36 (hu : u < 20) : F_X12_get 24 (nI u) (36 : Int32) (mS u S m0 x y) L (GRf pb) = some (S 0 36) := mget (k := 36) hu (by decide)
theorem ANw_36 {v : Int32} : AN c (uI S 0 36 v) = AN c S := AN_w (by decide) (by decide) (by decide)
theorem mst_37 {v : Int32} (hu : u < 20) : F_X12_set 24 (nI u) (37 : Int32) v (mS u S m0 x y) L (GRf pb) = some (mS u (uI S 0 37 v) m0 x y) := mset (k := 37) hu (by decide)
theorem mgt_37 (hu : u < 20) : F_X12_get 24 (nI u) (37 : Int32) (mS u S m0 x y) L (GRf pb) = some (S 0 37) := mget (k := 37) hu (by decide)
theorem ANw_37 {v : Int32} : AN c (uI S 0 37 v) = AN c S := AN_w (by decide) (by decide) (by decide)
theorem mst_38 {v : Int32} (hu : u < 20) : F_X12_set 24 (nI u) (38 : Int32) v (mS u S m0 x y) L (GRf pb) = some (mS u (uI S 0 38 v) m0 x y) := mset (k := 38) hu (by decide)
theorem mgt_38 (hu : u < 20) : F_X12_get 24 (nI u) (38 : Int32) (mS u S m0 x y) L (GRf pb) = some (S 0 38) := mget (k := 38) hu (by decide)
theorem ANw_38 {v : Int32} : AN c (uI S 0 38 v) = AN c S := AN_w (by decide) (by decide) (by decide)
theorem mst_39 {v : Int32} (hu : u < 20) : F_X12_set 24 (nI u) (39 : Int32) v (mS u S m0 x y) L (GRf pb) = some (mS u (uI S 0 39 v) m0 x y) := mset (k := 39) hu (by decide)
theorem mgt_39 (hu : u < 20) : F_X12_get 24 (nI u) (39 : Int32) (mS u S m0 x y) L (GRf pb) = some (S 0 39) := mget (k := 39) hu (by decide)
theorem ANw_39 {v : Int32} : AN c (uI S 0 39 v) = AN c S := AN_w (by decide) (by decide) (by decide)
theorem mst_40 {v : Int32} (hu : u < 20) : F_X12_set 24 (nI u) (40 : Int32) v (mS u S m0 x y) L (GRf pb) = some (mS u (uI S 0 40 v) m0 x y) := mset (k := 40) hu (by decide)
theorem mgt_40 (hu : u < 20) : F_X12_get 24 (nI u) (40 : Int32) (mS u S m0 x y) L (GRf pb) = some (S 0 40) := mget (k := 40) hu (by decide)
theorem ANw_40 {v : Int32} : AN c (uI S 0 40 v) = AN c S := AN_w (by decide) (by decide) (by decide)
theorem mst_41 {v : Int32} (hu : u < 20) : F_X12_set 24 (nI u) (41 : Int32) v (mS u S m0 x y) L (GRf pb) = some (mS u (uI S 0 41 v) m0 x y) := mset (k := 41) hu (by decide)
theorem mgt_41 (hu : u < 20) : F_X12_get 24 (nI u) (41 : Int32) (mS u S m0 x y) L (GRf pb) = some (S 0 41) := mget (k := 41) hu (by decide)
theorem ANw_41 {v : Int32} : AN c (uI S 0 41 v) = AN c S := AN_w (by decide) (by decide) (by decide)
theorem mst_42 {v : Int32} (hu : u < 20) : F_X12_set 24 (nI u) (42 : Int32) v (mS u S m0 x y) L (GRf pb) = some (mS u (uI S 0 42 v) m0 x y) := mset (k := 42) hu (by decide)
theorem mgt_42 (hu : u < 20) : F_X12_get 24 (nI u) (42 : Int32) (mS u S m0 x y) L (GRf pb) = some (S 0 42) := mget (k := 42) hu (by decide)
theorem ANw_42 {v : Int32} : AN c (uI S 0 42 v) = AN c S := AN_w (by decide) (by decide) (by decide)
theorem mst_43 {v : Int32} (hu : u < 20) : F_X12_set 24 (nI u) (43 : Int32) v (mS u S m0 x y) L (GRf pb) = some (mS u (uI S 0 43 v) m0 x y) := mset (k := 43) hu (by decide)
theorem mgt_43 (hu : u < 20) : F_X12_get 24 (nI u) (43 : Int32) (mS u S m0 x y) L (GRf pb) = some (S 0 43) := mget (k := 43) hu (by decide)
theorem ANw_43 {v : Int32} : AN c (uI S 0 43 v) = AN c S := AN_w (by decide) (by decide) (by decide)
theorem mst_44 {v : Int32} (hu : u < 20) : F_X12_set 24 (nI u) (44 : Int32) v (mS u S m0 x y) L (GRf pb) = some (mS u (uI S 0 44 v) m0 x y) := mset (k := 44) hu (by decide)
theorem mgt_44 (hu : u < 20) : F_X12_get 24 (nI u) (44 : Int32) (mS u S m0 x y) L (GRf pb) = some (S 0 44) := mget (k := 44) hu (by decide)
theorem ANw_44 {v : Int32} : AN c (uI S 0 44 v) = AN c S := AN_w (by decide) (by decide) (by decide)
theorem mst_45 {v : Int32} (hu : u < 20) : F_X12_set 24 (nI u) (45 : Int32) v (mS u S m0 x y) L (GRf pb) = some (mS u (uI S 0 45 v) m0 x y) := mset (k := 45) hu (by decide)
theorem mgt_45 (hu : u < 20) : F_X12_get 24 (nI u) (45 : Int32) (mS u S m0 x y) L (GRf pb) = some (S 0 45) := mget (k := 45) hu (by decide)
theorem ANw_45 {v : Int32} : AN c (uI S 0 45 v) = AN c S := AN_w (by decide) (by decide) (by decide)
theorem mst_47 {v : Int32} (hu : u < 20) : F_X12_set 24 (nI u) (47 : Int32) v (mS u S m0 x y) L (GRf pb) = some (mS u (uI S 0 47 v) m0 x y) := mset (k := 47) hu (by decide)
theorem mgt_47 (hu : u < 20) : F_X12_get 24 (nI u) (47 : Int32) (mS u S m0 x y) L (GRf pb) = some (S 0 47) := mget (k := 47) hu (by decide)
theorem ANw_47 {v : Int32} : AN c (uI S 0 47 v) = AN c S := AN_w (by decide) (by decide) (by decide)
theorem mst_48 {v : Int32} (hu : u < 20) : F_X12_set 24 (nI u) (48 : Int32) v (mS u S m0 x y) L (GRf pb) = some (mS u (uI S 0 48 v) m0 x y) := mset (k := 48) hu (by decide)
theorem mgt_48 (hu : u < 20) : F_X12_get 24 (nI u) (48 : Int32) (mS u S m0 x y) L (GRf pb) = some (S 0 48) := mget (k := 48) hu (by decide)
theorem ANw_48 {v : Int32} : AN c (uI S 0 48 v) = AN c S := AN_w (by decide) (by decide) (by decide)
theorem mst_49 {v : Int32} (hu : u < 20) : F_X12_set 24 (nI u) (49 : Int32) v (mS u S m0 x y) L (GRf pb) = some (mS u (uI S 0 49 v) m0 x y) := mset (k := 49) hu (by decide)
theorem mgt_49 (hu : u < 20) : F_X12_get 24 (nI u) (49 : Int32) (mS u S m0 x y) L (GRf pb) = some (S 0 49) := mget (k := 49) hu (by decide)
theorem mst_50 {v : Int32} (hu : u < 20) : F_X12_set 24 (nI u) (50 : Int32) v (mS u S m0 x y) L (GRf pb) = some (mS u (uI S 0 50 v) m0 x y) := mset (k := 50) hu (by decide)
theorem mgt_50 (hu : u < 20) : F_X12_get 24 (nI u) (50 : Int32) (mS u S m0 x y) L (GRf pb) = some (S 0 50) := mget (k := 50) hu (by decide)
theorem ANw_50 {v : Int32} : AN c (uI S 0 50 v) = AN c S := AN_w (by decide) (by decide) (by decide)
theorem mst_51 {v : Int32} (hu : u < 20) : F_X12_set 24 (nI u) (51 : Int32) v (mS u S m0 x y) L (GRf pb) = some (mS u (uI S 0 51 v) m0 x y) := mset (k := 51) hu (by decide)
theorem mgt_51 (hu : u < 20) : F_X12_get 24 (nI u) (51 : Int32) (mS u S m0 x y) L (GRf pb) = some (S 0 51) := mget (k := 51) hu (by decide)
theorem ANw_51 {v : Int32} : AN c (uI S 0 51 v) = AN c S := AN_w (by decide) (by decide) (by decide)
theorem mst_52 {v : Int32} (hu : u < 20) : F_X12_set 24 (nI u) (52 : Int32) v (mS u S m0 x y) L (GRf pb) = some (mS u (uI S 0 52 v) m0 x y) := mset (k := 52) hu (by decide)
theorem mgt_52 (hu : u < 20) : F_X12_get 24 (nI u) (52 : Int32) (mS u S m0 x y) L (GRf pb) = some (S 0 52) := mget (k := 52) hu (by decide)
theorem ANw_52 {v : Int32} : AN c (uI S 0 52 v) = AN c S := AN_w (by decide) (by decide) (by decide)
theorem mst_53 {v : Int32} (hu : u < 20) : F_X12_set 24 (nI u) (53 : Int32) v (mS u S m0 x y) L (GRf pb) = some (mS u (uI S 0 53 v) m0 x y) := mset (k := 53) hu (by decide)
theorem mgt_53 (hu : u < 20) : F_X12_get 24 (nI u) (53 : Int32) (mS u S m0 x y) L (GRf pb) = some (S 0 53) := mget (k := 53) hu (by decide)
theorem ANw_53 {v : Int32} : AN c (uI S 0 53 v) = AN c S := AN_w (by decide) (by decide) (by decide)
theorem mst_54 {v : Int32} (hu : u < 20) : F_X12_set 24 (nI u) (54 : Int32) v (mS u S m0 x y) L (GRf pb) = some (mS u (uI S 0 54 v) m0 x y) := mset (k := 54) hu (by decide)
theorem mgt_54 (hu : u < 20) : F_X12_get 24 (nI u) (54 : Int32) (mS u S m0 x y) L (GRf pb) = some (S 0 54) := mget (k := 54) hu (by decide)
theorem ANw_54 {v : Int32} : AN c (uI S 0 54 v) = AN c S := AN_w (by decide) (by decide) (by decide)
theorem mst_56 {v : Int32} (hu : u < 20) : F_X12_set 24 (nI u) (56 : Int32) v (mS u S m0 x y) L (GRf pb) = some (mS u (uI S 0 56 v) m0 x y) := mset (k := 56) hu (by decide)
theorem mgt_56 (hu : u < 20) : F_X12_get 24 (nI u) (56 : Int32) (mS u S m0 x y) L (GRf pb) = some (S 0 56) := mget (k := 56) hu (by decide)
theorem ANw_56 {v : Int32} : AN c (uI S 0 56 v) = AN c S := AN_w (by decide) (by decide) (by decide)
theorem mst_57 {v : Int32} (hu : u < 20) : F_X12_set 24 (nI u) (57 : Int32) v (mS u S m0 x y) L (GRf pb) = some (mS u (uI S 0 57 v) m0 x y) := mset (k := 57) hu (by decide)
theorem mgt_57 (hu : u < 20) : F_X12_get 24 (nI u) (57 : Int32) (mS u S m0 x y) L (GRf pb) = some (S 0 57) := mget (k := 57) hu (by decide)
theorem ANw_57 {v : Int32} : AN c (uI S 0 57 v) = AN c S := AN_w (by decide) (by decide) (by decide)
theorem mst_58 {v : Int32} (hu : u < 20) : F_X12_set 24 (nI u) (58 : Int32) v (mS u S m0 x y) L (GRf pb) = some (mS u (uI S 0 58 v) m0 x y) := mset (k := 58) hu (by decide)
theorem mgt_58 (hu : u < 20) : F_X12_get 24 (nI u) (58 : Int32) (mS u S m0 x y) L (GRf pb) = some (S 0 58) := mget (k := 58) hu (by decide)
theorem ANw_58 {v : Int32} : AN c (uI S 0 58 v) = AN c S := AN_w (by decide) (by decide) (by decide)
theorem mst_59 {v : Int32} (hu : u < 20) : F_X12_set 24 (nI u) (59 : Int32) v (mS u S m0 x y) L (GRf pb) = some (mS u (uI S 0 59 v) m0 x y) := mset (k := 59) hu (by decide)
theorem mgt_59 (hu : u < 20) : F_X12_get 24 (nI u) (59 : Int32) (mS u S m0 x y) L (GRf pb) = some (S 0 59) := mget (k := 59) hu (by decide)
theorem mst_60 {v : Int32} (hu : u < 20) : F_X12_set 24 (nI u) (60 : Int32) v (mS u S m0 x y) L (GRf pb) = some (mS u (uI S 0 60 v) m0 x y) := mset (k := 60) hu (by decide)
theorem mgt_60 (hu : u < 20) : F_X12_get 24 (nI u) (60 : Int32) (mS u S m0 x y) L (GRf pb) = some (S 0 60) := mget (k := 60) hu (by decide)
theorem ANw_60 {v : Int32} : AN c (uI S 0 60 v) = AN c S := AN_w (by decide) (by decide) (by decide)
theorem mst_61 {v : Int32} (hu : u < 20) : F_X12_set 24 (nI u) (61 : Int32) v (mS u S m0 x y) L (GRf pb) = some (mS u (uI S 0 61 v) m0 x y) := mset (k := 61) hu (by decide)
theorem mgt_61 (hu : u < 20) : F_X12_get 24 (nI u) (61 : Int32) (mS u S m0 x y) L (GRf pb) = some (S 0 61) := mget (k := 61) hu (by decide)
theorem ANw_61 {v : Int32} : AN c (uI S 0 61 v) = AN c S := AN_w (by decide) (by decide) (by decide)
theorem mst_64 {v : Int32} (hu : u < 20) : F_X12_set 24 (nI u) (64 : Int32) v (mS u S m0 x y) L (GRf pb) = some (mS u (uI S 0 64 v) m0 x y) := mset (k := 64) hu (by decide)
theorem mgt_64 (hu : u < 20) : F_X12_get 24 (nI u) (64 : Int32) (mS u S m0 x y) L (GRf pb) = some (S 0 64) := mget (k := 64) hu (by decide)
theorem ANw_64 {v : Int32} : AN c (uI S 0 64 v) = AN c S := AN_w (by decide) (by decide) (by decide)
theorem mgw_61 {v : Int32} (hu : u < 20) : F_X12_grow 24 (nI u) (61 : Int32) v (mS u S m0 x y) L (GRf pb) = some (mS u (uI S 0 61 (S 0 61 + v)) m0 x y) := mgrow (k := 61) hu (by decide)
theorem mans_0 (hN : 5000 ≤ N) (hu : u < 20) (hM : CM m0) (hc : c < 29) (an : AN c S) : F_X12_answer N 24 (nI u) (0 : Int32) (mS u S m0 x y) L (GRf pb) = some (ansV 0 c (S 0), mS u S m0 (ax N u 0 pb S m0 x y L) y) := mans (q := 0) hN hu hM hc (by decide) an
theorem mans_1 (hN : 5000 ≤ N) (hu : u < 20) (hM : CM m0) (hc : c < 29) (an : AN c S) : F_X12_answer N 24 (nI u) (1 : Int32) (mS u S m0 x y) L (GRf pb) = some (ansV 1 c (S 0), mS u S m0 (ax N u 1 pb S m0 x y L) y) := mans (q := 1) hN hu hM hc (by decide) an
theorem mans_2 (hN : 5000 ≤ N) (hu : u < 20) (hM : CM m0) (hc : c < 29) (an : AN c S) : F_X12_answer N 24 (nI u) (2 : Int32) (mS u S m0 x y) L (GRf pb) = some (ansV 2 c (S 0), mS u S m0 (ax N u 2 pb S m0 x y L) y) := mans (q := 2) hN hu hM hc (by decide) an
theorem mans_3 (hN : 5000 ≤ N) (hu : u < 20) (hM : CM m0) (hc : c < 29) (an : AN c S) : F_X12_answer N 24 (nI u) (3 : Int32) (mS u S m0 x y) L (GRf pb) = some (ansV 3 c (S 0), mS u S m0 (ax N u 3 pb S m0 x y L) y) := mans (q := 3) hN hu hM hc (by decide) an
theorem mans_4 (hN : 5000 ≤ N) (hu : u < 20) (hM : CM m0) (hc : c < 29) (an : AN c S) : F_X12_answer N 24 (nI u) (4 : Int32) (mS u S m0 x y) L (GRf pb) = some (ansV 4 c (S 0), mS u S m0 (ax N u 4 pb S m0 x y L) y) := mans (q := 4) hN hu hM hc (by decide) an
theorem mans_5 (hN : 5000 ≤ N) (hu : u < 20) (hM : CM m0) (hc : c < 29) (an : AN c S) : F_X12_answer N 24 (nI u) (5 : Int32) (mS u S m0 x y) L (GRf pb) = some (ansV 5 c (S 0), mS u S m0 (ax N u 5 pb S m0 x y L) y) := mans (q := 5) hN hu hM hc (by decide) an
theorem mkM_0 (hN : 5000 ≤ N) (hu : u < 20) (hM : CM m0) (hc : c < 29) (an : AN c S) (hk : KN S) (jb : JB S) : ∃ x', F_X12_makeUnit N 24 (nI u) (mS u S m0 x y) L (GRf pb) = some (mS u (lay_0 u c X S) m0 x' y) := by
  apply Exists.intro
  simp (decide := true) only [F_X12_makeUnit, lay_0, ck_24, if_true, if_false, bse, b1e, b2e, wre, mdraw, mS_26, mS_27, mS_s26, mS_s27, mx1M, AN_1, KN_w, KN_1, ne_eq, an, hk, uI_same, rr0, rr1, rrk, rrj, mans_0 hN hu hM hc, mans_1 hN hu hM hc, mans_2 hN hu hM hc, mans_3 hN hu hM hc, mans_4 hN hu hM hc, mans_5 hN hu hM hc, mnote, mst_1 hu, mgt_1 hu, ANw_1, mst_2 hu, mgt_2 hu, ANw_2, mst_3 hu, mgt_3 hu, ANw_3, mst_4 hu, mgt_4 hu, ANw_4, mst_5 hu, mgt_5 hu, ANw_5, mst_6 hu, mgt_6 hu, ANw_6] <;> exact rfl
theorem mkM_1 (hN : 5000 ≤ N) (hu : u < 20) (hM : CM m0) (hc : c < 29) (an : AN c S) (hk : KN S) (jb : JB S) : ∃ x', F_X12_makeStore N 24 (nI u) (1 : Int32) (X 0) (X 1) (mS u S m0 x y) L (GRf pb) = some (mS u (lay_1 u c X S) m0 x' y) := by
  apply Exists.intro
  simp (decide := true) only [F_X12_makeStore, lay_1, ck_24, if_true, if_false, bse, b1e, b2e, wre, mdraw, mS_26, mS_27, mS_s26, mS_s27, mx1M, AN_1, KN_w, KN_1, ne_eq, an, hk, uI_same, rr0, rr1, rrk, rrj, mans_0 hN hu hM hc, mans_1 hN hu hM hc, mans_2 hN hu hM hc, mans_3 hN hu hM hc, mans_4 hN hu hM hc, mans_5 hN hu hM hc, mnote, mst_3 hu, mgt_3 hu, ANw_3, mst_7 hu, mgt_7 hu, ANw_7, mst_8 hu, mgt_8 hu, ANw_8, mst_9 hu, mgt_9 hu, ANw_9, mst_10 hu, mgt_10 hu, ANw_10] <;> exact rfl
theorem mkM_2 (hN : 5000 ≤ N) (hu : u < 20) (hM : CM m0) (hc : c < 29) (an : AN c S) (hk : KN S) (jb : JB S) : ∃ x', F_X12_makeStore N 24 (nI u) (2 : Int32) (X 0) (X 1) (mS u S m0 x y) L (GRf pb) = some (mS u (lay_2 u c X S) m0 x' y) := by
  have md0 : md (S 1 0 + 1) 5 = iR (S 1 0 + 1) 5 := md_iRn (d := 5) (by obtain ⟨k, k1, k2⟩ := jb.1; exact ⟨k + 1, by omega, by rw [k2, nI_1]⟩) (by decide) (by decide)
  have mdv : ∀ z (I : MI), F_X12_mod z 5 I L (GRf pb) = some (md z 5) := fun z I => mod_val (by decide)
  apply Exists.intro
  simp (decide := true) only [F_X12_makeStore, lay_2, ck_24, if_true, if_false, bse, b1e, b2e, wre, mdraw, mS_26, mS_27, mS_s26, mS_s27, mx1M, AN_1, KN_w, KN_1, ne_eq, an, hk, uI_same, rr0, rr1, rrk, rrj, md0, mdv, mans_0 hN hu hM hc, mans_1 hN hu hM hc, mans_2 hN hu hM hc, mans_3 hN hu hM hc, mans_4 hN hu hM hc, mans_5 hN hu hM hc, mnote, mst_9 hu, mgt_9 hu, ANw_9, mst_10 hu, mgt_10 hu, ANw_10, mst_11 hu, mgt_11 hu, ANw_11, mst_13 hu, mgt_13 hu, ANw_13] <;> exact rfl
theorem mkM_3 (hN : 5000 ≤ N) (hu : u < 20) (hM : CM m0) (hc : c < 29) (an : AN c S) (hk : KN S) (jb : JB S) : ∃ x', F_X12_makeStore N 24 (nI u) (3 : Int32) (X 0) (X 1) (mS u S m0 x y) L (GRf pb) = some (mS u (lay_3 u c X S) m0 x' y) := by
  apply Exists.intro
  simp (decide := true) only [F_X12_makeStore, lay_3, ck_24, if_true, if_false, bse, b1e, b2e, wre, mdraw, mS_26, mS_27, mS_s26, mS_s27, mx1M, AN_1, KN_w, KN_1, ne_eq, an, hk, uI_same, rr0, rr1, rrk, rrj, mans_0 hN hu hM hc, mans_1 hN hu hM hc, mans_2 hN hu hM hc, mans_3 hN hu hM hc, mans_4 hN hu hM hc, mans_5 hN hu hM hc, mnote, mst_10 hu, mgt_10 hu, ANw_10, mst_11 hu, mgt_11 hu, ANw_11, mst_13 hu, mgt_13 hu, ANw_13, mst_14 hu, mgt_14 hu, ANw_14, mst_15 hu, mgt_15 hu, ANw_15, mst_16 hu, mgt_16 hu, ANw_16] <;> exact rfl
theorem mkM_4 (hN : 5000 ≤ N) (hu : u < 20) (hM : CM m0) (hc : c < 29) (an : AN c S) (hk : KN S) (jb : JB S) : ∃ x', F_X12_makeStore N 24 (nI u) (4 : Int32) (X 0) (X 1) (mS u S m0 x y) L (GRf pb) = some (mS u (lay_4 u c X S) m0 x' y) := by
  have md0 : md (S 0 4) 4 = iR (S 0 4) 4 := md_iRn (d := 4) (by obtain ⟨k, k1, k2⟩ := jb.2.2.1; exact ⟨k, by omega, k2⟩) (by decide) (by decide)
  have mdv : ∀ z (I : MI), F_X12_mod z 4 I L (GRf pb) = some (md z 4) := fun z I => mod_val (by decide)
  apply Exists.intro
  simp (decide := true) only [F_X12_makeStore, lay_4, ck_24, if_true, if_false, bse, b1e, b2e, wre, mdraw, mS_26, mS_27, mS_s26, mS_s27, mx1M, AN_1, KN_w, KN_1, ne_eq, an, hk, uI_same, rr0, rr1, rrk, rrj, md0, mdv, mans_0 hN hu hM hc, mans_1 hN hu hM hc, mans_2 hN hu hM hc, mans_3 hN hu hM hc, mans_4 hN hu hM hc, mans_5 hN hu hM hc, mnote, mst_4 hu, mgt_4 hu, ANw_4, mst_9 hu, mgt_9 hu, ANw_9, mst_10 hu, mgt_10 hu, ANw_10, mst_17 hu, mgt_17 hu, ANw_17] <;> exact rfl
theorem mkM_5 (hN : 5000 ≤ N) (hu : u < 20) (hM : CM m0) (hc : c < 29) (an : AN c S) (hk : KN S) (jb : JB S) : ∃ x', F_X12_makeStore N 24 (nI u) (5 : Int32) (X 0) (X 1) (mS u S m0 x y) L (GRf pb) = some (mS u (lay_5 u c X S) m0 x' y) := by
  apply Exists.intro
  simp (decide := true) only [F_X12_makeStore, lay_5, ck_24, if_true, if_false, bse, b1e, b2e, wre, mdraw, mS_26, mS_27, mS_s26, mS_s27, mx1M, AN_1, KN_w, KN_1, ne_eq, an, hk, uI_same, rr0, rr1, rrk, rrj, mans_0 hN hu hM hc, mans_1 hN hu hM hc, mans_2 hN hu hM hc, mans_3 hN hu hM hc, mans_4 hN hu hM hc, mans_5 hN hu hM hc, mnote, mst_9 hu, mgt_9 hu, ANw_9, mst_10 hu, mgt_10 hu, ANw_10, mst_18 hu, mgt_18 hu, ANw_18, mst_19 hu, mgt_19 hu, ANw_19, mst_20 hu, mgt_20 hu, ANw_20] <;> exact rfl
theorem mkM_6 (hN : 5000 ≤ N) (hu : u < 20) (hM : CM m0) (hc : c < 29) (an : AN c S) (hk : KN S) (jb : JB S) : ∃ x', F_X12_makeLoad N 24 (nI u) (6 : Int32) (X 0) (X 1) (X 2) (mS u S m0 x y) L (GRf pb) = some (mS u (lay_6 u c X S) m0 x' y) := by
  have md0 : md (S 0 2 + (S 1 0 + 1)) 3 = iR (S 0 2 + (S 1 0 + 1)) 3 := md_iRn (d := 3) (by obtain ⟨k, k1, k2⟩ := jb.1; obtain ⟨j, j1, j2⟩ := jb.2.1; exact ⟨j + (k + 1), by omega, by rw [k2, j2, nI_1, nI_add]⟩) (by decide) (by decide)
  have mdv : ∀ z (I : MI), F_X12_mod z 3 I L (GRf pb) = some (md z 3) := fun z I => mod_val (by decide)
  apply Exists.intro
  simp (decide := true) only [F_X12_makeLoad, lay_6, ck_24, if_true, if_false, bse, b1e, b2e, wre, mdraw, mS_26, mS_27, mS_s26, mS_s27, mx1M, AN_1, KN_w, KN_1, ne_eq, an, hk, uI_same, rr0, rr1, rrk, rrj, md0, mdv, mans_0 hN hu hM hc, mans_1 hN hu hM hc, mans_2 hN hu hM hc, mans_3 hN hu hM hc, mans_4 hN hu hM hc, mans_5 hN hu hM hc, mnote, mst_2 hu, mgt_2 hu, ANw_2, mst_21 hu, mgt_21 hu, ANw_21, mst_22 hu, mgt_22 hu, ANw_22, mst_23 hu, mgt_23 hu, ANw_23, mst_24 hu, mgt_24 hu, ANw_24] <;> exact rfl
theorem mkM_7 (hN : 5000 ≤ N) (hu : u < 20) (hM : CM m0) (hc : c < 29) (an : AN c S) (hk : KN S) (jb : JB S) : ∃ x', F_X12_makeLoad N 24 (nI u) (7 : Int32) (X 0) (X 1) (X 2) (mS u S m0 x y) L (GRf pb) = some (mS u (lay_7 u c X S) m0 x' y) := by
  apply Exists.intro
  simp (decide := true) only [F_X12_makeLoad, lay_7, ck_24, if_true, if_false, bse, b1e, b2e, wre, mdraw, mS_26, mS_27, mS_s26, mS_s27, mx1M, AN_1, KN_w, KN_1, ne_eq, an, hk, uI_same, rr0, rr1, rrk, rrj, mans_0 hN hu hM hc, mans_1 hN hu hM hc, mans_2 hN hu hM hc, mans_3 hN hu hM hc, mans_4 hN hu hM hc, mans_5 hN hu hM hc, mnote, mst_25 hu, mgt_25 hu, ANw_25] <;> exact rfl
theorem mkM_8 (hN : 5000 ≤ N) (hu : u < 20) (hM : CM m0) (hc : c < 29) (an : AN c S) (hk : KN S) (jb : JB S) : ∃ x', F_X12_makeLoad N 24 (nI u) (8 : Int32) (X 0) (X 1) (X 2) (mS u S m0 x y) L (GRf pb) = some (mS u (lay_8 u c X S) m0 x' y) := by
  apply Exists.intro
  simp (decide := true) only [F_X12_makeLoad, lay_8, ck_24, if_true, if_false, bse, b1e, b2e, wre, mdraw, mS_26, mS_27, mS_s26, mS_s27, mx1M, AN_1, KN_w, KN_1, ne_eq, an, hk, uI_same, rr0, rr1, rrk, rrj, mans_0 hN hu hM hc, mans_1 hN hu hM hc, mans_2 hN hu hM hc, mans_3 hN hu hM hc, mans_4 hN hu hM hc, mans_5 hN hu hM hc, mnote, mst_21 hu, mgt_21 hu, ANw_21, mst_25 hu, mgt_25 hu, ANw_25, mst_26 hu, mgt_26 hu, ANw_26, mst_27 hu, mgt_27 hu, ANw_27, mst_28 hu, mgt_28 hu, ANw_28] <;> exact rfl
theorem mkM_9 (hN : 5000 ≤ N) (hu : u < 20) (hM : CM m0) (hc : c < 29) (an : AN c S) (hk : KN S) (jb : JB S) : ∃ x', F_X12_makeSensor N 24 (nI u) (9 : Int32) (X 1) (X 2) (mS u S m0 x y) L (GRf pb) = some (mS u (lay_9 u c X S) m0 x' y) := by
  have md0 : md (S 1 0 + 1) 7 = iR (S 1 0 + 1) 7 := md_iRn (d := 7) (by obtain ⟨k, k1, k2⟩ := jb.1; exact ⟨k + 1, by omega, by rw [k2, nI_1]⟩) (by decide) (by decide)
  have mdv : ∀ z (I : MI), F_X12_mod z 7 I L (GRf pb) = some (md z 7) := fun z I => mod_val (by decide)
  apply Exists.intro
  simp (decide := true) only [F_X12_makeSensor, lay_9, ck_24, if_true, if_false, bse, b1e, b2e, wre, mdraw, mS_26, mS_27, mS_s26, mS_s27, mx1M, AN_1, KN_w, KN_1, ne_eq, an, hk, uI_same, rr0, rr1, rrk, rrj, md0, mdv, mans_0 hN hu hM hc, mans_1 hN hu hM hc, mans_2 hN hu hM hc, mans_3 hN hu hM hc, mans_4 hN hu hM hc, mans_5 hN hu hM hc, mnote, mst_29 hu, mgt_29 hu, ANw_29, mst_30 hu, mgt_30 hu, ANw_30, mst_31 hu, mgt_31 hu, ANw_31, mst_32 hu, mgt_32 hu, ANw_32] <;> exact rfl
theorem mkM_10 (hN : 5000 ≤ N) (hu : u < 20) (hM : CM m0) (hc : c < 29) (an : AN c S) (hk : KN S) (jb : JB S) : ∃ x', F_X12_makeSensor N 24 (nI u) (10 : Int32) (X 1) (X 2) (mS u S m0 x y) L (GRf pb) = some (mS u (lay_10 u c X S) m0 x' y) := by
  apply Exists.intro
  simp (decide := true) only [F_X12_makeSensor, lay_10, ck_24, if_true, if_false, bse, b1e, b2e, wre, mdraw, mS_26, mS_27, mS_s26, mS_s27, mx1M, AN_1, KN_w, KN_1, ne_eq, an, hk, uI_same, rr0, rr1, rrk, rrj, mans_0 hN hu hM hc, mans_1 hN hu hM hc, mans_2 hN hu hM hc, mans_3 hN hu hM hc, mans_4 hN hu hM hc, mans_5 hN hu hM hc, mnote, mst_29 hu, mgt_29 hu, ANw_29, mst_30 hu, mgt_30 hu, ANw_30, mst_33 hu, mgt_33 hu, ANw_33, mst_34 hu, mgt_34 hu, ANw_34, mst_35 hu, mgt_35 hu, ANw_35] <;> exact rfl
theorem mkM_11 (hN : 5000 ≤ N) (hu : u < 20) (hM : CM m0) (hc : c < 29) (an : AN c S) (hk : KN S) (jb : JB S) : ∃ x', F_X12_makeSensor N 24 (nI u) (11 : Int32) (X 1) (X 2) (mS u S m0 x y) L (GRf pb) = some (mS u (lay_11 u c X S) m0 x' y) := by
  have md0 : md (S 1 0 + 1) 4 = iR (S 1 0 + 1) 4 := md_iRn (d := 4) (by obtain ⟨k, k1, k2⟩ := jb.1; exact ⟨k + 1, by omega, by rw [k2, nI_1]⟩) (by decide) (by decide)
  have mdv : ∀ z (I : MI), F_X12_mod z 4 I L (GRf pb) = some (md z 4) := fun z I => mod_val (by decide)
  apply Exists.intro
  simp (decide := true) only [F_X12_makeSensor, lay_11, ck_24, if_true, if_false, bse, b1e, b2e, wre, mdraw, mS_26, mS_27, mS_s26, mS_s27, mx1M, AN_1, KN_w, KN_1, ne_eq, an, hk, uI_same, rr0, rr1, rrk, rrj, md0, mdv, mans_0 hN hu hM hc, mans_1 hN hu hM hc, mans_2 hN hu hM hc, mans_3 hN hu hM hc, mans_4 hN hu hM hc, mans_5 hN hu hM hc, mnote, mst_30 hu, mgt_30 hu, ANw_30, mst_33 hu, mgt_33 hu, ANw_33, mst_34 hu, mgt_34 hu, ANw_34, mst_36 hu, mgt_36 hu, ANw_36] <;> exact rfl
theorem mkM_12 (hN : 5000 ≤ N) (hu : u < 20) (hM : CM m0) (hc : c < 29) (an : AN c S) (hk : KN S) (jb : JB S) : ∃ x', F_X12_makeSensor N 24 (nI u) (12 : Int32) (X 1) (X 2) (mS u S m0 x y) L (GRf pb) = some (mS u (lay_12 u c X S) m0 x' y) := by
  apply Exists.intro
  simp (decide := true) only [F_X12_makeSensor, lay_12, ck_24, if_true, if_false, bse, b1e, b2e, wre, mdraw, mS_26, mS_27, mS_s26, mS_s27, mx1M, AN_1, KN_w, KN_1, ne_eq, an, hk, uI_same, rr0, rr1, rrk, rrj, mans_0 hN hu hM hc, mans_1 hN hu hM hc, mans_2 hN hu hM hc, mans_3 hN hu hM hc, mans_4 hN hu hM hc, mans_5 hN hu hM hc, mnote, mst_29 hu, mgt_29 hu, ANw_29, mst_37 hu, mgt_37 hu, ANw_37] <;> exact rfl
theorem mkM_13 (hN : 5000 ≤ N) (hu : u < 20) (hM : CM m0) (hc : c < 29) (an : AN c S) (hk : KN S) (jb : JB S) : ∃ x', F_X12_makeSensor N 24 (nI u) (13 : Int32) (X 1) (X 2) (mS u S m0 x y) L (GRf pb) = some (mS u (lay_13 u c X S) m0 x' y) := by
  apply Exists.intro
  simp (decide := true) only [F_X12_makeSensor, lay_13, ck_24, if_true, if_false, bse, b1e, b2e, wre, mdraw, mS_26, mS_27, mS_s26, mS_s27, mx1M, AN_1, KN_w, KN_1, ne_eq, an, hk, uI_same, rr0, rr1, rrk, rrj, mans_0 hN hu hM hc, mans_1 hN hu hM hc, mans_2 hN hu hM hc, mans_3 hN hu hM hc, mans_4 hN hu hM hc, mans_5 hN hu hM hc, mnote, mst_27 hu, mgt_27 hu, ANw_27, mst_29 hu, mgt_29 hu, ANw_29, mst_38 hu, mgt_38 hu, ANw_38] <;> exact rfl
theorem mkM_14 (hN : 5000 ≤ N) (hu : u < 20) (hM : CM m0) (hc : c < 29) (an : AN c S) (hk : KN S) (jb : JB S) : ∃ x', F_X12_makeSensor N 24 (nI u) (14 : Int32) (X 1) (X 2) (mS u S m0 x y) L (GRf pb) = some (mS u (lay_14 u c X S) m0 x' y) := by
  have md0 : md (S 1 0 + 1) 3 = iR (S 1 0 + 1) 3 := md_iRn (d := 3) (by obtain ⟨k, k1, k2⟩ := jb.1; exact ⟨k + 1, by omega, by rw [k2, nI_1]⟩) (by decide) (by decide)
  have mdv : ∀ z (I : MI), F_X12_mod z 3 I L (GRf pb) = some (md z 3) := fun z I => mod_val (by decide)
  apply Exists.intro
  simp (decide := true) only [F_X12_makeSensor, lay_14, ck_24, if_true, if_false, bse, b1e, b2e, wre, mdraw, mS_26, mS_27, mS_s26, mS_s27, mx1M, AN_1, KN_w, KN_1, ne_eq, an, hk, uI_same, rr0, rr1, rrk, rrj, md0, mdv, mans_0 hN hu hM hc, mans_1 hN hu hM hc, mans_2 hN hu hM hc, mans_3 hN hu hM hc, mans_4 hN hu hM hc, mans_5 hN hu hM hc, mnote, mst_27 hu, mgt_27 hu, ANw_27, mst_30 hu, mgt_30 hu, ANw_30, mst_39 hu, mgt_39 hu, ANw_39, mst_40 hu, mgt_40 hu, ANw_40] <;> exact rfl
theorem mkM_15 (hN : 5000 ≤ N) (hu : u < 20) (hM : CM m0) (hc : c < 29) (an : AN c S) (hk : KN S) (jb : JB S) : ∃ x', F_X12_makeActuator N 24 (nI u) (15 : Int32) (X 1) (X 2) (mS u S m0 x y) L (GRf pb) = some (mS u (lay_15 u c X S) m0 x' y) := by
  apply Exists.intro
  simp (decide := true) only [F_X12_makeActuator, lay_15, ck_24, if_true, if_false, bse, b1e, b2e, wre, mdraw, mS_26, mS_27, mS_s26, mS_s27, mx1M, AN_1, KN_w, KN_1, ne_eq, an, hk, uI_same, rr0, rr1, rrk, rrj, mans_0 hN hu hM hc, mans_1 hN hu hM hc, mans_2 hN hu hM hc, mans_3 hN hu hM hc, mans_4 hN hu hM hc, mans_5 hN hu hM hc, mnote, mst_35 hu, mgt_35 hu, ANw_35, mst_41 hu, mgt_41 hu, ANw_41, mst_42 hu, mgt_42 hu, ANw_42] <;> exact rfl
theorem mkM_16 (hN : 5000 ≤ N) (hu : u < 20) (hM : CM m0) (hc : c < 29) (an : AN c S) (hk : KN S) (jb : JB S) : ∃ x', F_X12_makeActuator N 24 (nI u) (16 : Int32) (X 1) (X 2) (mS u S m0 x y) L (GRf pb) = some (mS u (lay_16 u c X S) m0 x' y) := by
  apply Exists.intro
  simp (decide := true) only [F_X12_makeActuator, lay_16, ck_24, if_true, if_false, bse, b1e, b2e, wre, mdraw, mS_26, mS_27, mS_s26, mS_s27, mx1M, AN_1, KN_w, KN_1, ne_eq, an, hk, uI_same, rr0, rr1, rrk, rrj, mans_0 hN hu hM hc, mans_1 hN hu hM hc, mans_2 hN hu hM hc, mans_3 hN hu hM hc, mans_4 hN hu hM hc, mans_5 hN hu hM hc, mnote, mst_2 hu, mgt_2 hu, ANw_2, mst_42 hu, mgt_42 hu, ANw_42, mst_43 hu, mgt_43 hu, ANw_43, mst_44 hu, mgt_44 hu, ANw_44] <;> exact rfl
theorem mkM_17 (hN : 5000 ≤ N) (hu : u < 20) (hM : CM m0) (hc : c < 29) (an : AN c S) (hk : KN S) (jb : JB S) : ∃ x', F_X12_makeActuator N 24 (nI u) (17 : Int32) (X 1) (X 2) (mS u S m0 x y) L (GRf pb) = some (mS u (lay_17 u c X S) m0 x' y) := by
  apply Exists.intro
  simp (decide := true) only [F_X12_makeActuator, lay_17, ck_24, if_true, if_false, bse, b1e, b2e, wre, mdraw, mS_26, mS_27, mS_s26, mS_s27, mx1M, AN_1, KN_w, KN_1, ne_eq, an, hk, uI_same, rr0, rr1, rrk, rrj, mans_0 hN hu hM hc, mans_1 hN hu hM hc, mans_2 hN hu hM hc, mans_3 hN hu hM hc, mans_4 hN hu hM hc, mans_5 hN hu hM hc, mnote, mst_41 hu, mgt_41 hu, ANw_41, mst_42 hu, mgt_42 hu, ANw_42, mst_45 hu, mgt_45 hu, ANw_45] <;> exact rfl
theorem mkM_18 (hN : 5000 ≤ N) (hu : u < 20) (hM : CM m0) (hc : c < 29) (an : AN c S) (hk : KN S) (jb : JB S) : ∃ x', F_X12_makeActuator N 24 (nI u) (18 : Int32) (X 1) (X 2) (mS u S m0 x y) L (GRf pb) = some (mS u (lay_18 u c X S) m0 x' y) := by
  have md0 : md (S 1 0 + 1) 3 = iR (S 1 0 + 1) 3 := md_iRn (d := 3) (by obtain ⟨k, k1, k2⟩ := jb.1; exact ⟨k + 1, by omega, by rw [k2, nI_1]⟩) (by decide) (by decide)
  have mdv : ∀ z (I : MI), F_X12_mod z 3 I L (GRf pb) = some (md z 3) := fun z I => mod_val (by decide)
  apply Exists.intro
  simp (decide := true) only [F_X12_makeActuator, lay_18, ck_24, if_true, if_false, bse, b1e, b2e, wre, mdraw, mS_26, mS_27, mS_s26, mS_s27, mx1M, AN_1, KN_w, KN_1, ne_eq, an, hk, uI_same, rr0, rr1, rrk, rrj, md0, mdv, mans_0 hN hu hM hc, mans_1 hN hu hM hc, mans_2 hN hu hM hc, mans_3 hN hu hM hc, mans_4 hN hu hM hc, mans_5 hN hu hM hc, mnote, mst_27 hu, mgt_27 hu, ANw_27, mst_40 hu, mgt_40 hu, ANw_40, mst_47 hu, mgt_47 hu, ANw_47] <;> exact rfl
theorem mkM_19 (hN : 5000 ≤ N) (hu : u < 20) (hM : CM m0) (hc : c < 29) (an : AN c S) (hk : KN S) (jb : JB S) : ∃ x', F_X12_makeActuator N 24 (nI u) (19 : Int32) (X 1) (X 2) (mS u S m0 x y) L (GRf pb) = some (mS u (lay_19 u c X S) m0 x' y) := by
  apply Exists.intro
  simp (decide := true) only [F_X12_makeActuator, lay_19, ck_24, if_true, if_false, bse, b1e, b2e, wre, mdraw, mS_26, mS_27, mS_s26, mS_s27, mx1M, AN_1, KN_w, KN_1, ne_eq, an, hk, uI_same, rr0, rr1, rrk, rrj, mans_0 hN hu hM hc, mans_1 hN hu hM hc, mans_2 hN hu hM hc, mans_3 hN hu hM hc, mans_4 hN hu hM hc, mans_5 hN hu hM hc, mnote, mst_42 hu, mgt_42 hu, ANw_42, mst_47 hu, mgt_47 hu, ANw_47, mst_48 hu, mgt_48 hu, ANw_48] <;> exact rfl
theorem mkM_20 (hN : 5000 ≤ N) (hu : u < 20) (hM : CM m0) (hc : c < 29) (an : AN c S) (hk : KN S) (jb : JB S) : ∃ x', F_X12_makeLoad N 24 (nI u) (20 : Int32) (X 0) (X 1) (X 2) (mS u S m0 x y) L (GRf pb) = some (mS u (lay_20 u c X S) m0 x' y) := by
  apply Exists.intro
  simp (decide := true) only [F_X12_makeLoad, lay_20, ck_24, if_true, if_false, bse, b1e, b2e, wre, mdraw, mS_26, mS_27, mS_s26, mS_s27, mx1M, AN_1, KN_w, KN_1, ne_eq, an, hk, uI_same, rr0, rr1, rrk, rrj, mans_0 hN hu hM hc, mans_1 hN hu hM hc, mans_2 hN hu hM hc, mans_3 hN hu hM hc, mans_4 hN hu hM hc, mans_5 hN hu hM hc, mnote, mst_4 hu, mgt_4 hu, ANw_4, mst_49 hu, mgt_49 hu, mst_50 hu, mgt_50 hu, ANw_50, mst_51 hu, mgt_51 hu, ANw_51] <;> exact rfl
theorem mkM_21 (hN : 5000 ≤ N) (hu : u < 20) (hM : CM m0) (hc : c < 29) (an : AN c S) (hk : KN S) (jb : JB S) : ∃ x', F_X12_makeLoad N 24 (nI u) (21 : Int32) (X 0) (X 1) (X 2) (mS u S m0 x y) L (GRf pb) = some (mS u (lay_21 u c X S) m0 x' y) := by
  have md0 : md (S 0 49) 7 = iR (S 0 49) 7 := md_iRn (d := 7) (by obtain ⟨k, k1, k2⟩ := jb.2.2.2.1; exact ⟨k, by omega, k2⟩) (by decide) (by decide)
  have mdv : ∀ z (I : MI), F_X12_mod z 7 I L (GRf pb) = some (md z 7) := fun z I => mod_val (by decide)
  apply Exists.intro
  simp (decide := true) only [F_X12_makeLoad, lay_21, ck_24, if_true, if_false, bse, b1e, b2e, wre, mdraw, mS_26, mS_27, mS_s26, mS_s27, mx1M, AN_1, KN_w, KN_1, ne_eq, an, hk, uI_same, rr0, rr1, rrk, rrj, md0, mdv, mans_0 hN hu hM hc, mans_1 hN hu hM hc, mans_2 hN hu hM hc, mans_3 hN hu hM hc, mans_4 hN hu hM hc, mans_5 hN hu hM hc, mnote, mst_31 hu, mgt_31 hu, ANw_31, mst_49 hu, mgt_49 hu, mst_50 hu, mgt_50 hu, ANw_50] <;> exact rfl
theorem mkM_22 (hN : 5000 ≤ N) (hu : u < 20) (hM : CM m0) (hc : c < 29) (an : AN c S) (hk : KN S) (jb : JB S) : ∃ x', F_X12_makeSource N 24 (nI u) (22 : Int32) (X 0) (X 1) (mS u S m0 x y) L (GRf pb) = some (mS u (lay_22 u c X S) m0 x' y) := by
  have md0 : md (S 1 0 + 1) 3 = iR (S 1 0 + 1) 3 := md_iRn (d := 3) (by obtain ⟨k, k1, k2⟩ := jb.1; exact ⟨k + 1, by omega, by rw [k2, nI_1]⟩) (by decide) (by decide)
  have mdv : ∀ z (I : MI), F_X12_mod z 3 I L (GRf pb) = some (md z 3) := fun z I => mod_val (by decide)
  apply Exists.intro
  simp (decide := true) only [F_X12_makeSource, lay_22, ck_24, if_true, if_false, bse, b1e, b2e, wre, mdraw, mS_26, mS_27, mS_s26, mS_s27, mx1M, AN_1, KN_w, KN_1, ne_eq, an, hk, uI_same, rr0, rr1, rrk, rrj, md0, mdv, mans_0 hN hu hM hc, mans_1 hN hu hM hc, mans_2 hN hu hM hc, mans_3 hN hu hM hc, mans_4 hN hu hM hc, mans_5 hN hu hM hc, mnote, mst_43 hu, mgt_43 hu, ANw_43, mst_52 hu, mgt_52 hu, ANw_52] <;> exact rfl
theorem mkM_23 (hN : 5000 ≤ N) (hu : u < 20) (hM : CM m0) (hc : c < 29) (an : AN c S) (hk : KN S) (jb : JB S) : ∃ x', F_X12_makeSource N 24 (nI u) (23 : Int32) (X 0) (X 1) (mS u S m0 x y) L (GRf pb) = some (mS u (lay_23 u c X S) m0 x' y) := by
  apply Exists.intro
  simp (decide := true) only [F_X12_makeSource, lay_23, ck_24, if_true, if_false, bse, b1e, b2e, wre, mdraw, mS_26, mS_27, mS_s26, mS_s27, mx1M, AN_1, KN_w, KN_1, ne_eq, an, hk, uI_same, rr0, rr1, rrk, rrj, mans_0 hN hu hM hc, mans_1 hN hu hM hc, mans_2 hN hu hM hc, mans_3 hN hu hM hc, mans_4 hN hu hM hc, mans_5 hN hu hM hc, mnote, mst_52 hu, mgt_52 hu, ANw_52, mst_53 hu, mgt_53 hu, ANw_53, mst_54 hu, mgt_54 hu, ANw_54] <;> exact rfl
theorem mkM_24 (hN : 5000 ≤ N) (hu : u < 20) (hM : CM m0) (hc : c < 29) (an : AN c S) (hk : KN S) (jb : JB S) : ∃ x', F_X12_makeSource N 24 (nI u) (24 : Int32) (X 0) (X 1) (mS u S m0 x y) L (GRf pb) = some (mS u (lay_24 u c X S) m0 x' y) := by
  have md0 : md (S 0 54 * 900 + S 0 53) 3600 = iR (S 0 54 * 900 + S 0 53) 3600 := md_iRn (d := 3600) (by obtain ⟨k, k1, k2⟩ := jb.2.2.2.2.1; obtain ⟨j, j1, j2⟩ := jb.2.2.2.2.2; exact ⟨j * 900 + k, by omega, by rw [k2, j2, ← nI_add, ← pk_mul]; rfl⟩) (by decide) (by decide)
  have mdv : ∀ z (I : MI), F_X12_mod z 3600 I L (GRf pb) = some (md z 3600) := fun z I => mod_val (by decide)
  apply Exists.intro
  simp (decide := true) only [F_X12_makeSource, lay_24, ck_24, if_true, if_false, bse, b1e, b2e, wre, mdraw, mS_26, mS_27, mS_s26, mS_s27, mx1M, AN_1, KN_w, KN_1, ne_eq, an, hk, uI_same, rr0, rr1, rrk, rrj, md0, mdv, mans_0 hN hu hM hc, mans_1 hN hu hM hc, mans_2 hN hu hM hc, mans_3 hN hu hM hc, mans_4 hN hu hM hc, mans_5 hN hu hM hc, mnote, mst_53 hu, mgt_53 hu, ANw_53, mst_54 hu, mgt_54 hu, ANw_54, mst_56 hu, mgt_56 hu, ANw_56] <;> exact rfl
theorem mkM_25 (hN : 5000 ≤ N) (hu : u < 20) (hM : CM m0) (hc : c < 29) (an : AN c S) (hk : KN S) (jb : JB S) : ∃ x', F_X12_makeSource N 24 (nI u) (25 : Int32) (X 0) (X 1) (mS u S m0 x y) L (GRf pb) = some (mS u (lay_25 u c X S) m0 x' y) := by
  apply Exists.intro
  simp (decide := true) only [F_X12_makeSource, lay_25, ck_24, if_true, if_false, bse, b1e, b2e, wre, mdraw, mS_26, mS_27, mS_s26, mS_s27, mx1M, AN_1, KN_w, KN_1, ne_eq, an, hk, uI_same, rr0, rr1, rrk, rrj, mans_0 hN hu hM hc, mans_1 hN hu hM hc, mans_2 hN hu hM hc, mans_3 hN hu hM hc, mans_4 hN hu hM hc, mans_5 hN hu hM hc, mnote, mst_3 hu, mgt_3 hu, ANw_3, mst_27 hu, mgt_27 hu, ANw_27, mst_52 hu, mgt_52 hu, ANw_52, mst_57 hu, mgt_57 hu, ANw_57] <;> exact rfl
theorem mkM_26 (hN : 5000 ≤ N) (hu : u < 20) (hM : CM m0) (hc : c < 29) (an : AN c S) (hk : KN S) (jb : JB S) : ∃ x', F_X12_makeLink N 24 (nI u) (26 : Int32) (X 0) (X 1) (X 2) (mS u S m0 x y) L (GRf pb) = some (mS u (lay_26 u c X S) m0 x' y) := by
  have md0 : md (S 1 0 + 1) 2 = iR (S 1 0 + 1) 2 := md_iRn (d := 2) (by obtain ⟨k, k1, k2⟩ := jb.1; exact ⟨k + 1, by omega, by rw [k2, nI_1]⟩) (by decide) (by decide)
  have mdv : ∀ z (I : MI), F_X12_mod z 2 I L (GRf pb) = some (md z 2) := fun z I => mod_val (by decide)
  apply Exists.intro
  simp (decide := true) only [F_X12_makeLink, lay_26, ck_24, if_true, if_false, bse, b1e, b2e, wre, mdraw, mS_26, mS_27, mS_s26, mS_s27, mx1M, AN_1, KN_w, KN_1, ne_eq, an, hk, uI_same, rr0, rr1, rrk, rrj, md0, mdv, mans_0 hN hu hM hc, mans_1 hN hu hM hc, mans_2 hN hu hM hc, mans_3 hN hu hM hc, mans_4 hN hu hM hc, mans_5 hN hu hM hc, mnote, mst_58 hu, mgt_58 hu, ANw_58, mst_59 hu, mgt_59 hu, mst_60 hu, mgt_60 hu, ANw_60] <;> exact rfl
theorem mkM_27 (hN : 5000 ≤ N) (hu : u < 20) (hM : CM m0) (hc : c < 29) (an : AN c S) (hk : KN S) (jb : JB S) : ∃ x', F_X12_makeLink N 24 (nI u) (27 : Int32) (X 0) (X 1) (X 2) (mS u S m0 x y) L (GRf pb) = some (mS u (lay_27 u c X S) m0 x' y) := by
  apply Exists.intro
  simp (decide := true) only [F_X12_makeLink, lay_27, ck_24, if_true, if_false, bse, b1e, b2e, wre, mdraw, mS_26, mS_27, mS_s26, mS_s27, mx1M, AN_1, KN_w, KN_1, ne_eq, an, hk, uI_same, rr0, rr1, rrk, rrj, mans_0 hN hu hM hc, mans_1 hN hu hM hc, mans_2 hN hu hM hc, mans_3 hN hu hM hc, mans_4 hN hu hM hc, mans_5 hN hu hM hc, mnote, mst_58 hu, mgt_58 hu, ANw_58, mst_61 hu, mgt_61 hu, ANw_61] <;> exact rfl
theorem mkM_28 (hN : 5000 ≤ N) (hu : u < 20) (hM : CM m0) (hc : c < 29) (an : AN c S) (hk : KN S) (jb : JB S) : ∃ x', F_X12_makeLink N 24 (nI u) (28 : Int32) (X 0) (X 1) (X 2) (mS u S m0 x y) L (GRf pb) = some (mS u (lay_28 u c X S) m0 x' y) := by
  apply Exists.intro
  simp (decide := true) only [F_X12_makeLink, lay_28, ck_24, if_true, if_false, bse, b1e, b2e, wre, mdraw, mS_26, mS_27, mS_s26, mS_s27, mx1M, AN_1, KN_w, KN_1, ne_eq, an, hk, uI_same, rr0, rr1, rrk, rrj, mans_0 hN hu hM hc, mans_1 hN hu hM hc, mans_2 hN hu hM hc, mans_3 hN hu hM hc, mans_4 hN hu hM hc, mans_5 hN hu hM hc, mnote, mst_58 hu, mgt_58 hu, ANw_58, mst_59 hu, mgt_59 hu, mst_61 hu, mgt_61 hu, ANw_61, mgw_61 hu] <;> exact rfl
end P10
