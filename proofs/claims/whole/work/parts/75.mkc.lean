/-! T3: how a unit is made: the layers as pure functions over a small memory S (row 0 the parts; row 1 draws, address, reserve, notes; rows 2, 3, 4 the notes), and the class's side -/
def mx1 (x : Int32) : Int32 := if 1 < x then x else 1
def jotS (u : Nat) (l x : Int32) (S : MI) : MI := uI (if vN (S 1 3) < 100 then uI (uI (uI S 2 (vN (S 1 3)) (nI u)) 3 (vN (S 1 3)) l) 4 (vN (S 1 3)) x else S) 1 3 (S 1 3 + 1)
def lay_0 (u c : Nat) (X : Nat → Int32) (S : MI) : MI :=
  wr (uI S 0 1 (nI u)) fun (S : MI) =>
  wr (uI S 1 0 (S 1 0 + 1)) fun (S3 : MI) =>
  wr (S3 1 0) fun (v2 : Int32) =>
  wr (uI S3 0 2 v2) fun (S5 : MI) =>
  wr (ansV 0 c (S5 0)) fun (v6 : Int32) =>
  wr (uI S5 0 3 v6) fun (S8 : MI) =>
  wr (uI S8 0 4 (S8 1 1)) fun (S9 : MI) =>
  wr (ansV 1 c (S9 0)) fun (v10 : Int32) =>
  wr (mx1 v10) fun (v12 : Int32) =>
  wr (uI S9 0 5 v12) fun (S14 : MI) =>
  wr (S14 0 5) fun (v15 : Int32) =>
  wr (uI S14 1 1 ((S14 1 1) + v15)) fun (S16 : MI) =>
  wr (ansV 3 c (S16 0)) fun (v17 : Int32) =>
  wr (uI S16 0 6 v17) fun (S19 : MI) =>
  wr (S19 0 6) fun (v20 : Int32) =>
  jotS u (0 : Int32) v20 S19
def lay_1 (u c : Nat) (X : Nat → Int32) (S : MI) : MI :=
  wr (uI S 1 0 (S 1 0 + 1)) fun (S3 : MI) =>
  wr (S3 1 0) fun (v2 : Int32) =>
  wr (S3 0 3) fun (v5 : Int32) =>
  wr (uI S3 0 7 (v2 + v5)) fun (S6 : MI) =>
  wr (ansV 1 c (S6 0)) fun (v7 : Int32) =>
  wr (uI S6 0 8 v7) fun (S9 : MI) =>
  wr (uI S9 0 9 (X 0)) fun (S10 : MI) =>
  wr (S10 0 9) fun (v11 : Int32) =>
  wr (uI S10 0 10 (v11 / (2 : Int32))) fun (S12 : MI) =>
  wr (S12 0 8) fun (v13 : Int32) =>
  jotS u (1 : Int32) v13 S12
def lay_2 (u c : Nat) (X : Nat → Int32) (S : MI) : MI :=
  wr (uI S 1 0 (S 1 0 + 1)) fun (S3 : MI) =>
  wr (S3 1 0) fun (v2 : Int32) =>
  wr (uI S3 0 11 (iR v2 (5 : Int32))) fun (S5 : MI) =>
  wr (S5 0 9) fun (v6 : Int32) =>
  wr (uI S5 0 10 ((v6 * (3 : Int32)) / (4 : Int32))) fun (S7 : MI) =>
  wr (ansV 2 c (S7 0)) fun (v8 : Int32) =>
  wr (uI S7 0 13 v8) fun (S10 : MI) =>
  wr (S10 0 13) fun (v11 : Int32) =>
  jotS u (2 : Int32) v11 S10
def lay_3 (u c : Nat) (X : Nat → Int32) (S : MI) : MI :=
  wr (uI S 0 14 (2 : Int32)) fun (S2 : MI) =>
  wr (S2 0 13) fun (v3 : Int32) =>
  wr (S2 0 11) fun (v4 : Int32) =>
  wr (uI S2 0 15 ((v3 * (2 : Int32)) + v4)) fun (S5 : MI) =>
  wr (uI S5 0 16 (X 1)) fun (S6 : MI) =>
  wr (S6 0 10) fun (v7 : Int32) =>
  wr (S6 0 16) fun (v8 : Int32) =>
  wr (uI S6 0 10 ((v7 * v8) / (8 : Int32))) fun (S9 : MI) =>
  wr (ansV 2 c (S9 0)) fun (v10 : Int32) =>
  wr (uI S9 0 13 v10) fun (S12 : MI) =>
  wr (S12 0 10) fun (v13 : Int32) =>
  wr (S12 0 15) fun (v14 : Int32) =>
  jotS u (3 : Int32) (v13 + v14) S12
def lay_4 (u c : Nat) (X : Nat → Int32) (S : MI) : MI :=
  wr (S 0 4) fun (v2 : Int32) =>
  wr (uI S 0 17 (iR v2 (4 : Int32))) fun (S3 : MI) =>
  wr (S3 0 9) fun (v4 : Int32) =>
  wr (uI S3 0 10 v4) fun (S5 : MI) =>
  wr (S5 0 17) fun (v6 : Int32) =>
  jotS u (4 : Int32) v6 S5
def lay_5 (u c : Nat) (X : Nat → Int32) (S : MI) : MI :=
  wr (S 0 9) fun (v2 : Int32) =>
  wr (uI S 0 18 (v2 / (10 : Int32))) fun (S3 : MI) =>
  wr (S3 0 10) fun (v4 : Int32) =>
  wr (uI S3 0 19 v4) fun (S5 : MI) =>
  wr (uI S5 0 10 (0 : Int32)) fun (S6 : MI) =>
  wr (ansV 1 c (S6 0)) fun (v7 : Int32) =>
  wr (uI S6 0 20 v7) fun (S9 : MI) =>
  wr (S9 0 20) fun (v10 : Int32) =>
  wr (S9 0 19) fun (v11 : Int32) =>
  jotS u (5 : Int32) (v10 + v11) S9
def lay_6 (u c : Nat) (X : Nat → Int32) (S : MI) : MI :=
  wr (S 0 2) fun (v2 : Int32) =>
  wr (uI S 1 0 (S 1 0 + 1)) fun (S4 : MI) =>
  wr (S4 1 0) fun (v3 : Int32) =>
  wr (uI S4 0 21 (iR (v2 + v3) (3 : Int32))) fun (S6 : MI) =>
  wr (uI S6 0 22 (0 : Int32)) fun (S7 : MI) =>
  wr (uI S7 0 23 (X 0)) fun (S8 : MI) =>
  wr (ansV 2 c (S8 0)) fun (v9 : Int32) =>
  wr (uI S8 0 24 v9) fun (S11 : MI) =>
  wr (S11 0 24) fun (v12 : Int32) =>
  wr (uI S11 1 2 ((S11 1 2) + v12)) fun (S13 : MI) =>
  wr (S13 0 24) fun (v14 : Int32) =>
  jotS u (6 : Int32) v14 S13
def lay_7 (u c : Nat) (X : Nat → Int32) (S : MI) : MI :=
  wr (ansV 2 c (S 0)) fun (v2 : Int32) =>
  wr (uI S 0 25 (v2 + (1 : Int32))) fun (S4 : MI) =>
  wr (S4 0 25) fun (v5 : Int32) =>
  jotS u (7 : Int32) v5 S4
def lay_8 (u c : Nat) (X : Nat → Int32) (S : MI) : MI :=
  wr (S 0 21) fun (v2 : Int32) =>
  wr (S 0 25) fun (v3 : Int32) =>
  wr (uI S 0 26 (((5 : Int32) + (v2 * (5 : Int32))) + (v3 / (8 : Int32)))) fun (S4 : MI) =>
  wr (uI S4 0 27 (X 1)) fun (S5 : MI) =>
  wr (uI S5 0 28 (X 2)) fun (S6 : MI) =>
  wr (ansV 3 c (S6 0)) fun (v7 : Int32) =>
  jotS u (8 : Int32) v7 S6
def lay_9 (u c : Nat) (X : Nat → Int32) (S : MI) : MI :=
  wr (uI S 1 0 (S 1 0 + 1)) fun (S3 : MI) =>
  wr (S3 1 0) fun (v2 : Int32) =>
  wr (uI S3 0 29 (iR v2 (7 : Int32))) fun (S5 : MI) =>
  wr (ansV 4 c (S5 0)) fun (v6 : Int32) =>
  wr (uI S5 0 30 v6) fun (S8 : MI) =>
  wr (uI S8 0 31 (X 1)) fun (S9 : MI) =>
  wr (uI S9 0 32 (0 : Int32)) fun (S10 : MI) =>
  wr (S10 0 30) fun (v11 : Int32) =>
  jotS u (9 : Int32) v11 S10
def lay_10 (u c : Nat) (X : Nat → Int32) (S : MI) : MI :=
  wr (S 0 29) fun (v2 : Int32) =>
  wr (uI S 0 33 (v2 - (3 : Int32))) fun (S3 : MI) =>
  wr (uI S3 0 34 (1 : Int32)) fun (S4 : MI) =>
  wr (uI S4 0 35 (X 2)) fun (S5 : MI) =>
  wr (ansV 4 c (S5 0)) fun (v6 : Int32) =>
  wr (uI S5 0 30 v6) fun (S8 : MI) =>
  wr (S8 0 33) fun (v9 : Int32) =>
  jotS u (10 : Int32) v9 S8
def lay_11 (u c : Nat) (X : Nat → Int32) (S : MI) : MI :=
  wr (S 0 33) fun (v2 : Int32) =>
  wr (uI S 0 33 (v2 / (2 : Int32))) fun (S3 : MI) =>
  wr (uI S3 1 0 (S3 1 0 + 1)) fun (S5 : MI) =>
  wr (S5 1 0) fun (v4 : Int32) =>
  wr (uI S5 0 36 ((iR v4 (4 : Int32)) + (1 : Int32))) fun (S7 : MI) =>
  wr (uI S7 0 34 (3 : Int32)) fun (S8 : MI) =>
  wr (ansV 4 c (S8 0)) fun (v9 : Int32) =>
  wr (uI S8 0 30 v9) fun (S11 : MI) =>
  wr (S11 0 30) fun (v12 : Int32) =>
  jotS u (11 : Int32) v12 S11
def lay_12 (u c : Nat) (X : Nat → Int32) (S : MI) : MI :=
  wr (S 0 29) fun (v2 : Int32) =>
  wr (uI S 0 37 ((600 : Int32) + (v2 * (40 : Int32)))) fun (S3 : MI) =>
  wr (S3 0 37) fun (v4 : Int32) =>
  jotS u (12 : Int32) v4 S3
def lay_13 (u c : Nat) (X : Nat → Int32) (S : MI) : MI :=
  wr (S 0 29) fun (v2 : Int32) =>
  wr (uI S 0 38 (v2 - (2 : Int32))) fun (S3 : MI) =>
  wr (uI S3 0 27 (X 2)) fun (S4 : MI) =>
  wr (S4 0 38) fun (v5 : Int32) =>
  jotS u (13 : Int32) v5 S4
def lay_14 (u c : Nat) (X : Nat → Int32) (S : MI) : MI :=
  wr (S 0 30) fun (v2 : Int32) =>
  wr (uI S 1 0 (S 1 0 + 1)) fun (S4 : MI) =>
  wr (S4 1 0) fun (v3 : Int32) =>
  wr (uI S4 0 39 (v2 + (iR v3 (3 : Int32)))) fun (S6 : MI) =>
  wr (uI S6 0 27 (X 2)) fun (S7 : MI) =>
  wr (uI S7 0 40 (0 : Int32)) fun (S8 : MI) =>
  wr (S8 0 39) fun (v9 : Int32) =>
  jotS u (14 : Int32) v9 S8
def lay_15 (u c : Nat) (X : Nat → Int32) (S : MI) : MI :=
  wr (ansV 5 c (S 0)) fun (v2 : Int32) =>
  wr (uI S 0 41 v2) fun (S4 : MI) =>
  wr (uI S4 0 35 (X 1)) fun (S5 : MI) =>
  wr (ansV 5 c (S5 0)) fun (v6 : Int32) =>
  wr (uI S5 0 42 v6) fun (S8 : MI) =>
  wr (S8 0 42) fun (v9 : Int32) =>
  wr (S8 0 41) fun (v10 : Int32) =>
  jotS u (15 : Int32) (v9 - v10) S8
def lay_16 (u c : Nat) (X : Nat → Int32) (S : MI) : MI :=
  wr (S 0 2) fun (v2 : Int32) =>
  wr (uI S 0 43 ((200 : Int32) + v2)) fun (S3 : MI) =>
  wr (uI S3 0 44 (0 : Int32)) fun (S4 : MI) =>
  wr (S4 0 43) fun (v5 : Int32) =>
  wr (S4 0 42) fun (v6 : Int32) =>
  jotS u (16 : Int32) (v5 - v6) S4
def lay_17 (u c : Nat) (X : Nat → Int32) (S : MI) : MI :=
  wr (S 0 41) fun (v2 : Int32) =>
  wr (uI S 0 45 (v2 * (2 : Int32))) fun (S3 : MI) =>
  wr (ansV 5 c (S3 0)) fun (v4 : Int32) =>
  wr (uI S3 0 42 v4) fun (S6 : MI) =>
  wr (S6 0 42) fun (v7 : Int32) =>
  jotS u (17 : Int32) v7 S6
def lay_18 (u c : Nat) (X : Nat → Int32) (S : MI) : MI :=
  wr (uI S 1 0 (S 1 0 + 1)) fun (S3 : MI) =>
  wr (S3 1 0) fun (v2 : Int32) =>
  wr (uI S3 0 47 ((iR v2 (3 : Int32)) + (1 : Int32))) fun (S5 : MI) =>
  wr (uI S5 0 27 (X 2)) fun (S6 : MI) =>
  wr (uI S6 0 40 (0 : Int32)) fun (S7 : MI) =>
  wr (ansV 5 c (S7 0)) fun (v8 : Int32) =>
  jotS u (18 : Int32) v8 S7
def lay_19 (u c : Nat) (X : Nat → Int32) (S : MI) : MI :=
  wr (S 0 47) fun (v2 : Int32) =>
  wr (uI S 0 48 (v2 + (1 : Int32))) fun (S3 : MI) =>
  wr (ansV 5 c (S3 0)) fun (v4 : Int32) =>
  wr (uI S3 0 42 v4) fun (S6 : MI) =>
  wr (S6 0 42) fun (v7 : Int32) =>
  jotS u (19 : Int32) v7 S6
def lay_20 (u c : Nat) (X : Nat → Int32) (S : MI) : MI :=
  wr (S 0 4) fun (v2 : Int32) =>
  wr (uI S 0 49 ((v2 * (2 : Int32)) + (1 : Int32))) fun (S3 : MI) =>
  wr (uI S3 0 50 (X 1)) fun (S4 : MI) =>
  wr (uI S4 0 51 (0 : Int32)) fun (S5 : MI) =>
  wr (S5 0 49) fun (v6 : Int32) =>
  jotS u (20 : Int32) v6 S5
def lay_21 (u c : Nat) (X : Nat → Int32) (S : MI) : MI :=
  wr (S 0 49) fun (v2 : Int32) =>
  wr (uI S 0 31 ((10 : Int32) + (iR v2 (7 : Int32)))) fun (S3 : MI) =>
  wr (S3 0 50) fun (v4 : Int32) =>
  wr (uI S3 0 50 ((v4 / (2 : Int32)) + (1 : Int32))) fun (S5 : MI) =>
  wr (S5 0 50) fun (v6 : Int32) =>
  jotS u (21 : Int32) v6 S5
def lay_22 (u c : Nat) (X : Nat → Int32) (S : MI) : MI :=
  wr (uI S 1 0 (S 1 0 + 1)) fun (S3 : MI) =>
  wr (S3 1 0) fun (v2 : Int32) =>
  wr (uI S3 0 52 (iR v2 (3 : Int32))) fun (S5 : MI) =>
  wr (uI S5 0 43 (X 0)) fun (S6 : MI) =>
  wr (ansV 0 c (S6 0)) fun (v7 : Int32) =>
  jotS u (22 : Int32) v7 S6
def lay_23 (u c : Nat) (X : Nat → Int32) (S : MI) : MI :=
  wr (S 0 52) fun (v2 : Int32) =>
  wr (uI S 0 53 (v2 * (10 : Int32))) fun (S3 : MI) =>
  wr (uI S3 0 54 (X 1)) fun (S4 : MI) =>
  wr (S4 0 53) fun (v5 : Int32) =>
  wr (S4 0 54) fun (v6 : Int32) =>
  jotS u (23 : Int32) (v5 + v6) S4
def lay_24 (u c : Nat) (X : Nat → Int32) (S : MI) : MI :=
  wr (S 0 54) fun (v2 : Int32) =>
  wr (S 0 53) fun (v3 : Int32) =>
  wr (uI S 0 56 (iR ((v2 * (900 : Int32)) + v3) (3600 : Int32))) fun (S4 : MI) =>
  wr (S4 0 56) fun (v5 : Int32) =>
  jotS u (24 : Int32) v5 S4
def lay_25 (u c : Nat) (X : Nat → Int32) (S : MI) : MI :=
  wr (S 0 3) fun (v2 : Int32) =>
  wr (S 0 52) fun (v3 : Int32) =>
  wr (uI S 0 57 ((v2 * (2 : Int32)) + v3)) fun (S4 : MI) =>
  wr (uI S4 0 27 (X 1)) fun (S5 : MI) =>
  wr (S5 0 57) fun (v6 : Int32) =>
  jotS u (25 : Int32) v6 S5
def lay_26 (u c : Nat) (X : Nat → Int32) (S : MI) : MI :=
  wr (ansV 1 c (S 0)) fun (v2 : Int32) =>
  wr (uI S 1 0 (S 1 0 + 1)) fun (S5 : MI) =>
  wr (S5 1 0) fun (v4 : Int32) =>
  wr (uI S5 0 58 (v2 + (iR v4 (2 : Int32)))) fun (S7 : MI) =>
  wr (uI S7 0 59 (X 0)) fun (S8 : MI) =>
  wr (uI S8 0 60 (X 1)) fun (S9 : MI) =>
  wr (S9 0 58) fun (v10 : Int32) =>
  jotS u (26 : Int32) v10 S9
def lay_27 (u c : Nat) (X : Nat → Int32) (S : MI) : MI :=
  wr (S 0 58) fun (v2 : Int32) =>
  wr (uI S 0 61 (v2 + (2 : Int32))) fun (S3 : MI) =>
  wr (S3 0 61) fun (v4 : Int32) =>
  jotS u (27 : Int32) v4 S3
def lay_28 (u c : Nat) (X : Nat → Int32) (S : MI) : MI :=
  wr (S 0 58) fun (v2 : Int32) =>
  wr (uI S 0 61 v2) fun (S3 : MI) =>
  wr (S3 0 61) fun (v4 : Int32) =>
  wr (uI S3 0 61 (v4 + (X 2))) fun (S5 : MI) =>
  wr (S5 0 61) fun (v6 : Int32) =>
  wr (S5 0 59) fun (v7 : Int32) =>
  jotS u (28 : Int32) (v6 + v7) S5
def ovl (u : Nat) (P : Nat → Int32) (p : Nat) : Int32 := if p = 1 then nI u else if p = 12 then 3 else if p = 46 then 7 else if p = 55 then 5 else P p
def cS (u : Nat) (S c0 : MI) : MI := fun o p => if o = U u + 1 ∧ p < 65 then ovl u (S 0) p else if o = 1 ∧ 4 ≤ p ∧ p ≤ 7 then S 1 (p - 4) else if o = 3 ∧ p < 300 then S (2 + p % 3) (p / 3) else c0 o p
theorem cS_w {u k : Nat} {S c0 : MI} {v : Int32} (hk : k < 65) (h1 : k ≠ 1) (h2 : k ≠ 12) (h3 : k ≠ 46) (h4 : k ≠ 55) : uI (cS u S c0) (U u + 1) k v = cS u (uI S 0 k v) c0 := by
  have e : U u = 58 + 4 * u := rfl
  funext o p
  by_cases z : o = U u + 1 ∧ p = k
  · obtain ⟨rfl, rfl⟩ := z
    rw [uI_same]
    unfold cS ovl
    rw [if_pos ⟨rfl, hk⟩, if_neg h1, if_neg h2, if_neg h3, if_neg h4, uI_same]
  · rw [uI_at z]
    unfold cS ovl
    by_cases z1 : o = U u + 1 ∧ p < 65
    · rw [if_pos z1, if_pos z1, uI_at (show ¬ (0 = 0 ∧ p = k) from fun q => z ⟨z1.1, q.2⟩)]
    · rw [if_neg z1, if_neg z1, uI_at (show ¬ (1 = 0 ∧ _) by omega), uI_at (show ¬ (2 + p % 3 = 0 ∧ _) by omega)]
theorem cS_s {u j : Nat} {S c0 : MI} {v : Int32} (hj : j ≤ 3) : uI (cS u S c0) 1 (4 + j) v = cS u (uI S 1 j v) c0 := by
  have e : U u = 58 + 4 * u := rfl
  funext o p
  by_cases z : o = 1 ∧ p = 4 + j
  · obtain ⟨rfl, rfl⟩ := z
    rw [uI_same]
    unfold cS
    rw [if_neg (by omega), if_pos (by omega), show 4 + j - 4 = j by omega, uI_same]
  · rw [uI_at z]
    unfold cS ovl
    rw [uI_at (show ¬ (0 = 1 ∧ _) by omega), uI_at (show ¬ (2 + p % 3 = 1 ∧ _) by omega)]
    by_cases z1 : o = 1 ∧ 4 ≤ p ∧ p ≤ 7
    · rw [if_neg (show ¬ (o = U u + 1 ∧ p < 65) by omega), if_neg (show ¬ (o = U u + 1 ∧ p < 65) by omega), if_pos z1, if_pos z1, uI_at (by omega)]
    · rw [if_neg z1, if_neg z1]
theorem cS_n {u i j : Nat} {S c0 : MI} {v : Int32} (hj : j < 3) (hi : i < 100) : uI (cS u S c0) 3 (3 * i + j) v = cS u (uI S (2 + j) i v) c0 := by
  have e : U u = 58 + 4 * u := rfl
  funext o p
  by_cases z : o = 3 ∧ p = 3 * i + j
  · obtain ⟨rfl, rfl⟩ := z
    rw [uI_same]
    unfold cS
    rw [if_neg (by omega), if_neg (by omega), if_pos (by omega), show 2 + (3 * i + j) % 3 = 2 + j by omega, show (3 * i + j) / 3 = i by omega, uI_same]
  · rw [uI_at z]
    unfold cS ovl
    rw [uI_at (show ¬ (0 = 2 + j ∧ _) by omega), uI_at (show ¬ (1 = 2 + j ∧ _) by omega)]
    by_cases z1 : o = 3 ∧ p < 300
    · rw [if_neg (show ¬ (o = U u + 1 ∧ p < 65) by omega), if_neg (show ¬ (o = U u + 1 ∧ p < 65) by omega), if_neg (show ¬ (o = 1 ∧ 4 ≤ p ∧ p ≤ 7) by omega), if_neg (show ¬ (o = 1 ∧ 4 ≤ p ∧ p ≤ 7) by omega), if_pos z1, if_pos z1, uI_at (by omega)]
    · rw [if_neg z1, if_neg z1]
theorem cS_r {u k : Nat} {S c0 : MI} (hk : k < 65) (h1 : k ≠ 1) (h2 : k ≠ 12) (h3 : k ≠ 46) (h4 : k ≠ 55) : cS u S c0 (U u + 1) k = S 0 k := by
  unfold cS ovl
  rw [if_pos ⟨rfl, hk⟩, if_neg h1, if_neg h2, if_neg h3, if_neg h4]
theorem cS_r1 {u : Nat} {S c0 : MI} : cS u S c0 (U u + 1) 1 = nI u := by
  unfold cS ovl
  rw [if_pos ⟨rfl, by decide⟩, if_pos rfl]
theorem cS_c {u j : Nat} {S c0 : MI} (hj : j ≤ 3) : cS u S c0 1 (4 + j) = S 1 j := by
  have e : U u = 58 + 4 * u := rfl
  unfold cS
  rw [if_neg (by omega), if_pos (by omega), show 4 + j - 4 = j by omega]
theorem cS_o {u o p : Nat} {S c0 : MI} (h1 : ¬ (o = U u + 1 ∧ p < 65)) (h2 : ¬ (o = 1 ∧ 4 ≤ p ∧ p ≤ 7)) (h3 : ¬ (o = 3 ∧ p < 300)) : cS u S c0 o p = c0 o p := by
  unfold cS
  rw [if_neg h1, if_neg h2, if_neg h3]
theorem cS_1 {u : Nat} {S c0 : MI} {v : Int32} : cS u (uI S 0 1 v) c0 = cS u S c0 := by
  funext o p
  unfold cS ovl
  rw [uI_at (show ¬ (1 = 0 ∧ _) by omega), uI_at (show ¬ (2 + p % 3 = 0 ∧ _) by omega)]
  by_cases z : p = 1
  · rw [if_pos z, if_pos z]
  · rw [if_neg z, if_neg z, uI_at (by omega)]
def HP (u c : Nat) (S : MI) : Prop := S 0 1 = nI u ∧ (isL c 2 = true → S 0 12 = 3) ∧ (c = 17 → S 0 46 = 7) ∧ (c = 24 → S 0 55 = 5)
def KN (S : MI) : Prop := ∃ k, k < 2 ^ 20 ∧ S 1 3 = nI k
theorem HP_w {u c k : Nat} {S : MI} {v : Int32} (h1 : k ≠ 1) (h2 : k ≠ 12) (h3 : k ≠ 46) (h4 : k ≠ 55) : HP u c (uI S 0 k v) = HP u c S := by
  unfold HP
  rw [uI_at (by omega), uI_at (by omega), uI_at (by omega), uI_at (by omega)]
theorem HP_1 {u c j : Nat} {S : MI} {v : Int32} : HP u c (uI S 1 j v) = HP u c S := by
  unfold HP
  rw [uI_at (by omega), uI_at (by omega), uI_at (by omega), uI_at (by omega)]
theorem KN_w {k : Nat} {S : MI} {v : Int32} : KN (uI S 0 k v) = KN S := by
  unfold KN
  rw [uI_at (by omega)]
theorem KN_1 {j : Nat} {S : MI} {v : Int32} (h : j ≠ 3) : KN (uI S 1 j v) = KN S := by
  unfold KN
  rw [uI_at (by omega)]
theorem cSw_2 {u : Nat} {S c0 : MI} {v : Int32} : uI (cS u S c0) (U u + 1) 2 v = cS u (uI S 0 2 v) c0 := cS_w (by decide) (by decide) (by decide) (by decide) (by decide)
theorem cSr_2 {u : Nat} {S c0 : MI} : cS u S c0 (U u + 1) 2 = S 0 2 := cS_r (by decide) (by decide) (by decide) (by decide) (by decide)
theorem HPw_2 {u c : Nat} {S : MI} {v : Int32} : HP u c (uI S 0 2 v) = HP u c S := HP_w (by decide) (by decide) (by decide) (by decide)
theorem cSw_3 {u : Nat} {S c0 : MI} {v : Int32} : uI (cS u S c0) (U u + 1) 3 v = cS u (uI S 0 3 v) c0 := cS_w (by decide) (by decide) (by decide) (by decide) (by decide)
theorem cSr_3 {u : Nat} {S c0 : MI} : cS u S c0 (U u + 1) 3 = S 0 3 := cS_r (by decide) (by decide) (by decide) (by decide) (by decide)
theorem HPw_3 {u c : Nat} {S : MI} {v : Int32} : HP u c (uI S 0 3 v) = HP u c S := HP_w (by decide) (by decide) (by decide) (by decide)
theorem cSw_4 {u : Nat} {S c0 : MI} {v : Int32} : uI (cS u S c0) (U u + 1) 4 v = cS u (uI S 0 4 v) c0 := cS_w (by decide) (by decide) (by decide) (by decide) (by decide)
theorem cSr_4 {u : Nat} {S c0 : MI} : cS u S c0 (U u + 1) 4 = S 0 4 := cS_r (by decide) (by decide) (by decide) (by decide) (by decide)
theorem HPw_4 {u c : Nat} {S : MI} {v : Int32} : HP u c (uI S 0 4 v) = HP u c S := HP_w (by decide) (by decide) (by decide) (by decide)
theorem cSw_5 {u : Nat} {S c0 : MI} {v : Int32} : uI (cS u S c0) (U u + 1) 5 v = cS u (uI S 0 5 v) c0 := cS_w (by decide) (by decide) (by decide) (by decide) (by decide)
theorem cSr_5 {u : Nat} {S c0 : MI} : cS u S c0 (U u + 1) 5 = S 0 5 := cS_r (by decide) (by decide) (by decide) (by decide) (by decide)
theorem HPw_5 {u c : Nat} {S : MI} {v : Int32} : HP u c (uI S 0 5 v) = HP u c S := HP_w (by decide) (by decide) (by decide) (by decide)
theorem cSw_6 {u : Nat} {S c0 : MI} {v : Int32} : uI (cS u S c0) (U u + 1) 6 v = cS u (uI S 0 6 v) c0 := cS_w (by decide) (by decide) (by decide) (by decide) (by decide)
theorem cSr_6 {u : Nat} {S c0 : MI} : cS u S c0 (U u + 1) 6 = S 0 6 := cS_r (by decide) (by decide) (by decide) (by decide) (by decide)
theorem HPw_6 {u c : Nat} {S : MI} {v : Int32} : HP u c (uI S 0 6 v) = HP u c S := HP_w (by decide) (by decide) (by decide) (by decide)
theorem cSw_7 {u : Nat} {S c0 : MI} {v : Int32} : uI (cS u S c0) (U u + 1) 7 v = cS u (uI S 0 7 v) c0 := cS_w (by decide) (by decide) (by decide) (by decide) (by decide)
theorem cSr_7 {u : Nat} {S c0 : MI} : cS u S c0 (U u + 1) 7 = S 0 7 := cS_r (by decide) (by decide) (by decide) (by decide) (by decide)
theorem HPw_7 {u c : Nat} {S : MI} {v : Int32} : HP u c (uI S 0 7 v) = HP u c S := HP_w (by decide) (by decide) (by decide) (by decide)
theorem cSw_8 {u : Nat} {S c0 : MI} {v : Int32} : uI (cS u S c0) (U u + 1) 8 v = cS u (uI S 0 8 v) c0 := cS_w (by decide) (by decide) (by decide) (by decide) (by decide)
theorem cSr_8 {u : Nat} {S c0 : MI} : cS u S c0 (U u + 1) 8 = S 0 8 := cS_r (by decide) (by decide) (by decide) (by decide) (by decide)
theorem HPw_8 {u c : Nat} {S : MI} {v : Int32} : HP u c (uI S 0 8 v) = HP u c S := HP_w (by decide) (by decide) (by decide) (by decide)
theorem cSw_9 {u : Nat} {S c0 : MI} {v : Int32} : uI (cS u S c0) (U u + 1) 9 v = cS u (uI S 0 9 v) c0 := cS_w (by decide) (by decide) (by decide) (by decide) (by decide)
theorem cSr_9 {u : Nat} {S c0 : MI} : cS u S c0 (U u + 1) 9 = S 0 9 := cS_r (by decide) (by decide) (by decide) (by decide) (by decide)
theorem HPw_9 {u c : Nat} {S : MI} {v : Int32} : HP u c (uI S 0 9 v) = HP u c S := HP_w (by decide) (by decide) (by decide) (by decide)
theorem cSw_10 {u : Nat} {S c0 : MI} {v : Int32} : uI (cS u S c0) (U u + 1) 10 v = cS u (uI S 0 10 v) c0 := cS_w (by decide) (by decide) (by decide) (by decide) (by decide)
theorem cSr_10 {u : Nat} {S c0 : MI} : cS u S c0 (U u + 1) 10 = S 0 10 := cS_r (by decide) (by decide) (by decide) (by decide) (by decide)
theorem HPw_10 {u c : Nat} {S : MI} {v : Int32} : HP u c (uI S 0 10 v) = HP u c S := HP_w (by decide) (by decide) (by decide) (by decide)
theorem cSw_11 {u : Nat} {S c0 : MI} {v : Int32} : uI (cS u S c0) (U u + 1) 11 v = cS u (uI S 0 11 v) c0 := cS_w (by decide) (by decide) (by decide) (by decide) (by decide)
theorem cSr_11 {u : Nat} {S c0 : MI} : cS u S c0 (U u + 1) 11 = S 0 11 := cS_r (by decide) (by decide) (by decide) (by decide) (by decide)
theorem HPw_11 {u c : Nat} {S : MI} {v : Int32} : HP u c (uI S 0 11 v) = HP u c S := HP_w (by decide) (by decide) (by decide) (by decide)
theorem cSw_13 {u : Nat} {S c0 : MI} {v : Int32} : uI (cS u S c0) (U u + 1) 13 v = cS u (uI S 0 13 v) c0 := cS_w (by decide) (by decide) (by decide) (by decide) (by decide)
theorem cSr_13 {u : Nat} {S c0 : MI} : cS u S c0 (U u + 1) 13 = S 0 13 := cS_r (by decide) (by decide) (by decide) (by decide) (by decide)
theorem HPw_13 {u c : Nat} {S : MI} {v : Int32} : HP u c (uI S 0 13 v) = HP u c S := HP_w (by decide) (by decide) (by decide) (by decide)
theorem cSw_14 {u : Nat} {S c0 : MI} {v : Int32} : uI (cS u S c0) (U u + 1) 14 v = cS u (uI S 0 14 v) c0 := cS_w (by decide) (by decide) (by decide) (by decide) (by decide)
theorem cSr_14 {u : Nat} {S c0 : MI} : cS u S c0 (U u + 1) 14 = S 0 14 := cS_r (by decide) (by decide) (by decide) (by decide) (by decide)
theorem HPw_14 {u c : Nat} {S : MI} {v : Int32} : HP u c (uI S 0 14 v) = HP u c S := HP_w (by decide) (by decide) (by decide) (by decide)
theorem cSw_15 {u : Nat} {S c0 : MI} {v : Int32} : uI (cS u S c0) (U u + 1) 15 v = cS u (uI S 0 15 v) c0 := cS_w (by decide) (by decide) (by decide) (by decide) (by decide)
theorem cSr_15 {u : Nat} {S c0 : MI} : cS u S c0 (U u + 1) 15 = S 0 15 := cS_r (by decide) (by decide) (by decide) (by decide) (by decide)
theorem HPw_15 {u c : Nat} {S : MI} {v : Int32} : HP u c (uI S 0 15 v) = HP u c S := HP_w (by decide) (by decide) (by decide) (by decide)
theorem cSw_16 {u : Nat} {S c0 : MI} {v : Int32} : uI (cS u S c0) (U u + 1) 16 v = cS u (uI S 0 16 v) c0 := cS_w (by decide) (by decide) (by decide) (by decide) (by decide)
theorem cSr_16 {u : Nat} {S c0 : MI} : cS u S c0 (U u + 1) 16 = S 0 16 := cS_r (by decide) (by decide) (by decide) (by decide) (by decide)
theorem HPw_16 {u c : Nat} {S : MI} {v : Int32} : HP u c (uI S 0 16 v) = HP u c S := HP_w (by decide) (by decide) (by decide) (by decide)
theorem cSw_17 {u : Nat} {S c0 : MI} {v : Int32} : uI (cS u S c0) (U u + 1) 17 v = cS u (uI S 0 17 v) c0 := cS_w (by decide) (by decide) (by decide) (by decide) (by decide)
theorem cSr_17 {u : Nat} {S c0 : MI} : cS u S c0 (U u + 1) 17 = S 0 17 := cS_r (by decide) (by decide) (by decide) (by decide) (by decide)
theorem HPw_17 {u c : Nat} {S : MI} {v : Int32} : HP u c (uI S 0 17 v) = HP u c S := HP_w (by decide) (by decide) (by decide) (by decide)
theorem cSw_18 {u : Nat} {S c0 : MI} {v : Int32} : uI (cS u S c0) (U u + 1) 18 v = cS u (uI S 0 18 v) c0 := cS_w (by decide) (by decide) (by decide) (by decide) (by decide)
theorem cSr_18 {u : Nat} {S c0 : MI} : cS u S c0 (U u + 1) 18 = S 0 18 := cS_r (by decide) (by decide) (by decide) (by decide) (by decide)
theorem HPw_18 {u c : Nat} {S : MI} {v : Int32} : HP u c (uI S 0 18 v) = HP u c S := HP_w (by decide) (by decide) (by decide) (by decide)
theorem cSw_19 {u : Nat} {S c0 : MI} {v : Int32} : uI (cS u S c0) (U u + 1) 19 v = cS u (uI S 0 19 v) c0 := cS_w (by decide) (by decide) (by decide) (by decide) (by decide)
theorem cSr_19 {u : Nat} {S c0 : MI} : cS u S c0 (U u + 1) 19 = S 0 19 := cS_r (by decide) (by decide) (by decide) (by decide) (by decide)
theorem HPw_19 {u c : Nat} {S : MI} {v : Int32} : HP u c (uI S 0 19 v) = HP u c S := HP_w (by decide) (by decide) (by decide) (by decide)
theorem cSw_20 {u : Nat} {S c0 : MI} {v : Int32} : uI (cS u S c0) (U u + 1) 20 v = cS u (uI S 0 20 v) c0 := cS_w (by decide) (by decide) (by decide) (by decide) (by decide)
theorem cSr_20 {u : Nat} {S c0 : MI} : cS u S c0 (U u + 1) 20 = S 0 20 := cS_r (by decide) (by decide) (by decide) (by decide) (by decide)
theorem HPw_20 {u c : Nat} {S : MI} {v : Int32} : HP u c (uI S 0 20 v) = HP u c S := HP_w (by decide) (by decide) (by decide) (by decide)
theorem cSw_21 {u : Nat} {S c0 : MI} {v : Int32} : uI (cS u S c0) (U u + 1) 21 v = cS u (uI S 0 21 v) c0 := cS_w (by decide) (by decide) (by decide) (by decide) (by decide)
theorem cSr_21 {u : Nat} {S c0 : MI} : cS u S c0 (U u + 1) 21 = S 0 21 := cS_r (by decide) (by decide) (by decide) (by decide) (by decide)
theorem HPw_21 {u c : Nat} {S : MI} {v : Int32} : HP u c (uI S 0 21 v) = HP u c S := HP_w (by decide) (by decide) (by decide) (by decide)
theorem cSw_22 {u : Nat} {S c0 : MI} {v : Int32} : uI (cS u S c0) (U u + 1) 22 v = cS u (uI S 0 22 v) c0 := cS_w (by decide) (by decide) (by decide) (by decide) (by decide)
theorem cSr_22 {u : Nat} {S c0 : MI} : cS u S c0 (U u + 1) 22 = S 0 22 := cS_r (by decide) (by decide) (by decide) (by decide) (by decide)
theorem HPw_22 {u c : Nat} {S : MI} {v : Int32} : HP u c (uI S 0 22 v) = HP u c S := HP_w (by decide) (by decide) (by decide) (by decide)
theorem cSw_23 {u : Nat} {S c0 : MI} {v : Int32} : uI (cS u S c0) (U u + 1) 23 v = cS u (uI S 0 23 v) c0 := cS_w (by decide) (by decide) (by decide) (by decide) (by decide)
theorem cSr_23 {u : Nat} {S c0 : MI} : cS u S c0 (U u + 1) 23 = S 0 23 := cS_r (by decide) (by decide) (by decide) (by decide) (by decide)
theorem HPw_23 {u c : Nat} {S : MI} {v : Int32} : HP u c (uI S 0 23 v) = HP u c S := HP_w (by decide) (by decide) (by decide) (by decide)
theorem cSw_24 {u : Nat} {S c0 : MI} {v : Int32} : uI (cS u S c0) (U u + 1) 24 v = cS u (uI S 0 24 v) c0 := cS_w (by decide) (by decide) (by decide) (by decide) (by decide)
theorem cSr_24 {u : Nat} {S c0 : MI} : cS u S c0 (U u + 1) 24 = S 0 24 := cS_r (by decide) (by decide) (by decide) (by decide) (by decide)
theorem HPw_24 {u c : Nat} {S : MI} {v : Int32} : HP u c (uI S 0 24 v) = HP u c S := HP_w (by decide) (by decide) (by decide) (by decide)
theorem cSw_25 {u : Nat} {S c0 : MI} {v : Int32} : uI (cS u S c0) (U u + 1) 25 v = cS u (uI S 0 25 v) c0 := cS_w (by decide) (by decide) (by decide) (by decide) (by decide)
theorem cSr_25 {u : Nat} {S c0 : MI} : cS u S c0 (U u + 1) 25 = S 0 25 := cS_r (by decide) (by decide) (by decide) (by decide) (by decide)
theorem HPw_25 {u c : Nat} {S : MI} {v : Int32} : HP u c (uI S 0 25 v) = HP u c S := HP_w (by decide) (by decide) (by decide) (by decide)
theorem cSw_26 {u : Nat} {S c0 : MI} {v : Int32} : uI (cS u S c0) (U u + 1) 26 v = cS u (uI S 0 26 v) c0 := cS_w (by decide) (by decide) (by decide) (by decide) (by decide)
theorem cSr_26 {u : Nat} {S c0 : MI} : cS u S c0 (U u + 1) 26 = S 0 26 := cS_r (by decide) (by decide) (by decide) (by decide) (by decide)
theorem HPw_26 {u c : Nat} {S : MI} {v : Int32} : HP u c (uI S 0 26 v) = HP u c S := HP_w (by decide) (by decide) (by decide) (by decide)
theorem cSw_27 {u : Nat} {S c0 : MI} {v : Int32} : uI (cS u S c0) (U u + 1) 27 v = cS u (uI S 0 27 v) c0 := cS_w (by decide) (by decide) (by decide) (by decide) (by decide)
theorem cSr_27 {u : Nat} {S c0 : MI} : cS u S c0 (U u + 1) 27 = S 0 27 := cS_r (by decide) (by decide) (by decide) (by decide) (by decide)
theorem HPw_27 {u c : Nat} {S : MI} {v : Int32} : HP u c (uI S 0 27 v) = HP u c S := HP_w (by decide) (by decide) (by decide) (by decide)
theorem cSw_28 {u : Nat} {S c0 : MI} {v : Int32} : uI (cS u S c0) (U u + 1) 28 v = cS u (uI S 0 28 v) c0 := cS_w (by decide) (by decide) (by decide) (by decide) (by decide)
theorem cSr_28 {u : Nat} {S c0 : MI} : cS u S c0 (U u + 1) 28 = S 0 28 := cS_r (by decide) (by decide) (by decide) (by decide) (by decide)
theorem HPw_28 {u c : Nat} {S : MI} {v : Int32} : HP u c (uI S 0 28 v) = HP u c S := HP_w (by decide) (by decide) (by decide) (by decide)
theorem cSw_29 {u : Nat} {S c0 : MI} {v : Int32} : uI (cS u S c0) (U u + 1) 29 v = cS u (uI S 0 29 v) c0 := cS_w (by decide) (by decide) (by decide) (by decide) (by decide)
theorem cSr_29 {u : Nat} {S c0 : MI} : cS u S c0 (U u + 1) 29 = S 0 29 := cS_r (by decide) (by decide) (by decide) (by decide) (by decide)
theorem HPw_29 {u c : Nat} {S : MI} {v : Int32} : HP u c (uI S 0 29 v) = HP u c S := HP_w (by decide) (by decide) (by decide) (by decide)
theorem cSw_30 {u : Nat} {S c0 : MI} {v : Int32} : uI (cS u S c0) (U u + 1) 30 v = cS u (uI S 0 30 v) c0 := cS_w (by decide) (by decide) (by decide) (by decide) (by decide)
theorem cSr_30 {u : Nat} {S c0 : MI} : cS u S c0 (U u + 1) 30 = S 0 30 := cS_r (by decide) (by decide) (by decide) (by decide) (by decide)
theorem HPw_30 {u c : Nat} {S : MI} {v : Int32} : HP u c (uI S 0 30 v) = HP u c S := HP_w (by decide) (by decide) (by decide) (by decide)
theorem cSw_31 {u : Nat} {S c0 : MI} {v : Int32} : uI (cS u S c0) (U u + 1) 31 v = cS u (uI S 0 31 v) c0 := cS_w (by decide) (by decide) (by decide) (by decide) (by decide)
theorem cSr_31 {u : Nat} {S c0 : MI} : cS u S c0 (U u + 1) 31 = S 0 31 := cS_r (by decide) (by decide) (by decide) (by decide) (by decide)
theorem HPw_31 {u c : Nat} {S : MI} {v : Int32} : HP u c (uI S 0 31 v) = HP u c S := HP_w (by decide) (by decide) (by decide) (by decide)
theorem cSw_32 {u : Nat} {S c0 : MI} {v : Int32} : uI (cS u S c0) (U u + 1) 32 v = cS u (uI S 0 32 v) c0 := cS_w (by decide) (by decide) (by decide) (by decide) (by decide)
theorem cSr_32 {u : Nat} {S c0 : MI} : cS u S c0 (U u + 1) 32 = S 0 32 := cS_r (by decide) (by decide) (by decide) (by decide) (by decide)
theorem HPw_32 {u c : Nat} {S : MI} {v : Int32} : HP u c (uI S 0 32 v) = HP u c S := HP_w (by decide) (by decide) (by decide) (by decide)
theorem cSw_33 {u : Nat} {S c0 : MI} {v : Int32} : uI (cS u S c0) (U u + 1) 33 v = cS u (uI S 0 33 v) c0 := cS_w (by decide) (by decide) (by decide) (by decide) (by decide)
theorem cSr_33 {u : Nat} {S c0 : MI} : cS u S c0 (U u + 1) 33 = S 0 33 := cS_r (by decide) (by decide) (by decide) (by decide) (by decide)
theorem HPw_33 {u c : Nat} {S : MI} {v : Int32} : HP u c (uI S 0 33 v) = HP u c S := HP_w (by decide) (by decide) (by decide) (by decide)
theorem cSw_34 {u : Nat} {S c0 : MI} {v : Int32} : uI (cS u S c0) (U u + 1) 34 v = cS u (uI S 0 34 v) c0 := cS_w (by decide) (by decide) (by decide) (by decide) (by decide)
theorem cSr_34 {u : Nat} {S c0 : MI} : cS u S c0 (U u + 1) 34 = S 0 34 := cS_r (by decide) (by decide) (by decide) (by decide) (by decide)
theorem HPw_34 {u c : Nat} {S : MI} {v : Int32} : HP u c (uI S 0 34 v) = HP u c S := HP_w (by decide) (by decide) (by decide) (by decide)
theorem cSw_35 {u : Nat} {S c0 : MI} {v : Int32} : uI (cS u S c0) (U u + 1) 35 v = cS u (uI S 0 35 v) c0 := cS_w (by decide) (by decide) (by decide) (by decide) (by decide)
theorem cSr_35 {u : Nat} {S c0 : MI} : cS u S c0 (U u + 1) 35 = S 0 35 := cS_r (by decide) (by decide) (by decide) (by decide) (by decide)
theorem HPw_35 {u c : Nat} {S : MI} {v : Int32} : HP u c (uI S 0 35 v) = HP u c S := HP_w (by decide) (by decide) (by decide) (by decide)
theorem cSw_36 {u : Nat} {S c0 : MI} {v : Int32} : uI (cS u S c0) (U u + 1) 36 v = cS u (uI S 0 36 v) c0 := cS_w (by decide) (by decide) (by decide) (by decide) (by decide)
theorem cSr_36 {u : Nat} {S c0 : MI} : cS u S c0 (U u + 1) 36 = S 0 36 := cS_r (by decide) (by decide) (by decide) (by decide) (by decide)
theorem HPw_36 {u c : Nat} {S : MI} {v : Int32} : HP u c (uI S 0 36 v) = HP u c S := HP_w (by decide) (by decide) (by decide) (by decide)
theorem cSw_37 {u : Nat} {S c0 : MI} {v : Int32} : uI (cS u S c0) (U u + 1) 37 v = cS u (uI S 0 37 v) c0 := cS_w (by decide) (by decide) (by decide) (by decide) (by decide)
theorem cSr_37 {u : Nat} {S c0 : MI} : cS u S c0 (U u + 1) 37 = S 0 37 := cS_r (by decide) (by decide) (by decide) (by decide) (by decide)
theorem HPw_37 {u c : Nat} {S : MI} {v : Int32} : HP u c (uI S 0 37 v) = HP u c S := HP_w (by decide) (by decide) (by decide) (by decide)
theorem cSw_38 {u : Nat} {S c0 : MI} {v : Int32} : uI (cS u S c0) (U u + 1) 38 v = cS u (uI S 0 38 v) c0 := cS_w (by decide) (by decide) (by decide) (by decide) (by decide)
theorem cSr_38 {u : Nat} {S c0 : MI} : cS u S c0 (U u + 1) 38 = S 0 38 := cS_r (by decide) (by decide) (by decide) (by decide) (by decide)
theorem HPw_38 {u c : Nat} {S : MI} {v : Int32} : HP u c (uI S 0 38 v) = HP u c S := HP_w (by decide) (by decide) (by decide) (by decide)
theorem cSw_39 {u : Nat} {S c0 : MI} {v : Int32} : uI (cS u S c0) (U u + 1) 39 v = cS u (uI S 0 39 v) c0 := cS_w (by decide) (by decide) (by decide) (by decide) (by decide)
theorem cSr_39 {u : Nat} {S c0 : MI} : cS u S c0 (U u + 1) 39 = S 0 39 := cS_r (by decide) (by decide) (by decide) (by decide) (by decide)
theorem HPw_39 {u c : Nat} {S : MI} {v : Int32} : HP u c (uI S 0 39 v) = HP u c S := HP_w (by decide) (by decide) (by decide) (by decide)
theorem cSw_40 {u : Nat} {S c0 : MI} {v : Int32} : uI (cS u S c0) (U u + 1) 40 v = cS u (uI S 0 40 v) c0 := cS_w (by decide) (by decide) (by decide) (by decide) (by decide)
theorem cSr_40 {u : Nat} {S c0 : MI} : cS u S c0 (U u + 1) 40 = S 0 40 := cS_r (by decide) (by decide) (by decide) (by decide) (by decide)
theorem HPw_40 {u c : Nat} {S : MI} {v : Int32} : HP u c (uI S 0 40 v) = HP u c S := HP_w (by decide) (by decide) (by decide) (by decide)
theorem cSw_41 {u : Nat} {S c0 : MI} {v : Int32} : uI (cS u S c0) (U u + 1) 41 v = cS u (uI S 0 41 v) c0 := cS_w (by decide) (by decide) (by decide) (by decide) (by decide)
theorem cSr_41 {u : Nat} {S c0 : MI} : cS u S c0 (U u + 1) 41 = S 0 41 := cS_r (by decide) (by decide) (by decide) (by decide) (by decide)
theorem HPw_41 {u c : Nat} {S : MI} {v : Int32} : HP u c (uI S 0 41 v) = HP u c S := HP_w (by decide) (by decide) (by decide) (by decide)
theorem cSw_42 {u : Nat} {S c0 : MI} {v : Int32} : uI (cS u S c0) (U u + 1) 42 v = cS u (uI S 0 42 v) c0 := cS_w (by decide) (by decide) (by decide) (by decide) (by decide)
theorem cSr_42 {u : Nat} {S c0 : MI} : cS u S c0 (U u + 1) 42 = S 0 42 := cS_r (by decide) (by decide) (by decide) (by decide) (by decide)
theorem HPw_42 {u c : Nat} {S : MI} {v : Int32} : HP u c (uI S 0 42 v) = HP u c S := HP_w (by decide) (by decide) (by decide) (by decide)
theorem cSw_43 {u : Nat} {S c0 : MI} {v : Int32} : uI (cS u S c0) (U u + 1) 43 v = cS u (uI S 0 43 v) c0 := cS_w (by decide) (by decide) (by decide) (by decide) (by decide)
theorem cSr_43 {u : Nat} {S c0 : MI} : cS u S c0 (U u + 1) 43 = S 0 43 := cS_r (by decide) (by decide) (by decide) (by decide) (by decide)
theorem HPw_43 {u c : Nat} {S : MI} {v : Int32} : HP u c (uI S 0 43 v) = HP u c S := HP_w (by decide) (by decide) (by decide) (by decide)
theorem cSw_44 {u : Nat} {S c0 : MI} {v : Int32} : uI (cS u S c0) (U u + 1) 44 v = cS u (uI S 0 44 v) c0 := cS_w (by decide) (by decide) (by decide) (by decide) (by decide)
theorem cSr_44 {u : Nat} {S c0 : MI} : cS u S c0 (U u + 1) 44 = S 0 44 := cS_r (by decide) (by decide) (by decide) (by decide) (by decide)
theorem HPw_44 {u c : Nat} {S : MI} {v : Int32} : HP u c (uI S 0 44 v) = HP u c S := HP_w (by decide) (by decide) (by decide) (by decide)
theorem cSw_45 {u : Nat} {S c0 : MI} {v : Int32} : uI (cS u S c0) (U u + 1) 45 v = cS u (uI S 0 45 v) c0 := cS_w (by decide) (by decide) (by decide) (by decide) (by decide)
theorem cSr_45 {u : Nat} {S c0 : MI} : cS u S c0 (U u + 1) 45 = S 0 45 := cS_r (by decide) (by decide) (by decide) (by decide) (by decide)
theorem HPw_45 {u c : Nat} {S : MI} {v : Int32} : HP u c (uI S 0 45 v) = HP u c S := HP_w (by decide) (by decide) (by decide) (by decide)
theorem cSw_47 {u : Nat} {S c0 : MI} {v : Int32} : uI (cS u S c0) (U u + 1) 47 v = cS u (uI S 0 47 v) c0 := cS_w (by decide) (by decide) (by decide) (by decide) (by decide)
theorem cSr_47 {u : Nat} {S c0 : MI} : cS u S c0 (U u + 1) 47 = S 0 47 := cS_r (by decide) (by decide) (by decide) (by decide) (by decide)
theorem HPw_47 {u c : Nat} {S : MI} {v : Int32} : HP u c (uI S 0 47 v) = HP u c S := HP_w (by decide) (by decide) (by decide) (by decide)
theorem cSw_48 {u : Nat} {S c0 : MI} {v : Int32} : uI (cS u S c0) (U u + 1) 48 v = cS u (uI S 0 48 v) c0 := cS_w (by decide) (by decide) (by decide) (by decide) (by decide)
theorem cSr_48 {u : Nat} {S c0 : MI} : cS u S c0 (U u + 1) 48 = S 0 48 := cS_r (by decide) (by decide) (by decide) (by decide) (by decide)
theorem HPw_48 {u c : Nat} {S : MI} {v : Int32} : HP u c (uI S 0 48 v) = HP u c S := HP_w (by decide) (by decide) (by decide) (by decide)
theorem cSw_49 {u : Nat} {S c0 : MI} {v : Int32} : uI (cS u S c0) (U u + 1) 49 v = cS u (uI S 0 49 v) c0 := cS_w (by decide) (by decide) (by decide) (by decide) (by decide)
theorem cSr_49 {u : Nat} {S c0 : MI} : cS u S c0 (U u + 1) 49 = S 0 49 := cS_r (by decide) (by decide) (by decide) (by decide) (by decide)
theorem HPw_49 {u c : Nat} {S : MI} {v : Int32} : HP u c (uI S 0 49 v) = HP u c S := HP_w (by decide) (by decide) (by decide) (by decide)
theorem cSw_50 {u : Nat} {S c0 : MI} {v : Int32} : uI (cS u S c0) (U u + 1) 50 v = cS u (uI S 0 50 v) c0 := cS_w (by decide) (by decide) (by decide) (by decide) (by decide)
theorem cSr_50 {u : Nat} {S c0 : MI} : cS u S c0 (U u + 1) 50 = S 0 50 := cS_r (by decide) (by decide) (by decide) (by decide) (by decide)
theorem HPw_50 {u c : Nat} {S : MI} {v : Int32} : HP u c (uI S 0 50 v) = HP u c S := HP_w (by decide) (by decide) (by decide) (by decide)
theorem cSw_51 {u : Nat} {S c0 : MI} {v : Int32} : uI (cS u S c0) (U u + 1) 51 v = cS u (uI S 0 51 v) c0 := cS_w (by decide) (by decide) (by decide) (by decide) (by decide)
theorem cSr_51 {u : Nat} {S c0 : MI} : cS u S c0 (U u + 1) 51 = S 0 51 := cS_r (by decide) (by decide) (by decide) (by decide) (by decide)
theorem HPw_51 {u c : Nat} {S : MI} {v : Int32} : HP u c (uI S 0 51 v) = HP u c S := HP_w (by decide) (by decide) (by decide) (by decide)
theorem cSw_52 {u : Nat} {S c0 : MI} {v : Int32} : uI (cS u S c0) (U u + 1) 52 v = cS u (uI S 0 52 v) c0 := cS_w (by decide) (by decide) (by decide) (by decide) (by decide)
theorem cSr_52 {u : Nat} {S c0 : MI} : cS u S c0 (U u + 1) 52 = S 0 52 := cS_r (by decide) (by decide) (by decide) (by decide) (by decide)
theorem HPw_52 {u c : Nat} {S : MI} {v : Int32} : HP u c (uI S 0 52 v) = HP u c S := HP_w (by decide) (by decide) (by decide) (by decide)
theorem cSw_53 {u : Nat} {S c0 : MI} {v : Int32} : uI (cS u S c0) (U u + 1) 53 v = cS u (uI S 0 53 v) c0 := cS_w (by decide) (by decide) (by decide) (by decide) (by decide)
theorem cSr_53 {u : Nat} {S c0 : MI} : cS u S c0 (U u + 1) 53 = S 0 53 := cS_r (by decide) (by decide) (by decide) (by decide) (by decide)
theorem HPw_53 {u c : Nat} {S : MI} {v : Int32} : HP u c (uI S 0 53 v) = HP u c S := HP_w (by decide) (by decide) (by decide) (by decide)
theorem cSw_54 {u : Nat} {S c0 : MI} {v : Int32} : uI (cS u S c0) (U u + 1) 54 v = cS u (uI S 0 54 v) c0 := cS_w (by decide) (by decide) (by decide) (by decide) (by decide)
theorem cSr_54 {u : Nat} {S c0 : MI} : cS u S c0 (U u + 1) 54 = S 0 54 := cS_r (by decide) (by decide) (by decide) (by decide) (by decide)
theorem HPw_54 {u c : Nat} {S : MI} {v : Int32} : HP u c (uI S 0 54 v) = HP u c S := HP_w (by decide) (by decide) (by decide) (by decide)
theorem cSw_56 {u : Nat} {S c0 : MI} {v : Int32} : uI (cS u S c0) (U u + 1) 56 v = cS u (uI S 0 56 v) c0 := cS_w (by decide) (by decide) (by decide) (by decide) (by decide)
theorem cSr_56 {u : Nat} {S c0 : MI} : cS u S c0 (U u + 1) 56 = S 0 56 := cS_r (by decide) (by decide) (by decide) (by decide) (by decide)
theorem HPw_56 {u c : Nat} {S : MI} {v : Int32} : HP u c (uI S 0 56 v) = HP u c S := HP_w (by decide) (by decide) (by decide) (by decide)
theorem cSw_57 {u : Nat} {S c0 : MI} {v : Int32} : uI (cS u S c0) (U u + 1) 57 v = cS u (uI S 0 57 v) c0 := cS_w (by decide) (by decide) (by decide) (by decide) (by decide)
theorem cSr_57 {u : Nat} {S c0 : MI} : cS u S c0 (U u + 1) 57 = S 0 57 := cS_r (by decide) (by decide) (by decide) (by decide) (by decide)
theorem HPw_57 {u c : Nat} {S : MI} {v : Int32} : HP u c (uI S 0 57 v) = HP u c S := HP_w (by decide) (by decide) (by decide) (by decide)
theorem cSw_58 {u : Nat} {S c0 : MI} {v : Int32} : uI (cS u S c0) (U u + 1) 58 v = cS u (uI S 0 58 v) c0 := cS_w (by decide) (by decide) (by decide) (by decide) (by decide)
theorem cSr_58 {u : Nat} {S c0 : MI} : cS u S c0 (U u + 1) 58 = S 0 58 := cS_r (by decide) (by decide) (by decide) (by decide) (by decide)
theorem HPw_58 {u c : Nat} {S : MI} {v : Int32} : HP u c (uI S 0 58 v) = HP u c S := HP_w (by decide) (by decide) (by decide) (by decide)
theorem cSw_59 {u : Nat} {S c0 : MI} {v : Int32} : uI (cS u S c0) (U u + 1) 59 v = cS u (uI S 0 59 v) c0 := cS_w (by decide) (by decide) (by decide) (by decide) (by decide)
theorem cSr_59 {u : Nat} {S c0 : MI} : cS u S c0 (U u + 1) 59 = S 0 59 := cS_r (by decide) (by decide) (by decide) (by decide) (by decide)
theorem HPw_59 {u c : Nat} {S : MI} {v : Int32} : HP u c (uI S 0 59 v) = HP u c S := HP_w (by decide) (by decide) (by decide) (by decide)
theorem cSw_60 {u : Nat} {S c0 : MI} {v : Int32} : uI (cS u S c0) (U u + 1) 60 v = cS u (uI S 0 60 v) c0 := cS_w (by decide) (by decide) (by decide) (by decide) (by decide)
theorem cSr_60 {u : Nat} {S c0 : MI} : cS u S c0 (U u + 1) 60 = S 0 60 := cS_r (by decide) (by decide) (by decide) (by decide) (by decide)
theorem HPw_60 {u c : Nat} {S : MI} {v : Int32} : HP u c (uI S 0 60 v) = HP u c S := HP_w (by decide) (by decide) (by decide) (by decide)
theorem cSw_61 {u : Nat} {S c0 : MI} {v : Int32} : uI (cS u S c0) (U u + 1) 61 v = cS u (uI S 0 61 v) c0 := cS_w (by decide) (by decide) (by decide) (by decide) (by decide)
theorem cSr_61 {u : Nat} {S c0 : MI} : cS u S c0 (U u + 1) 61 = S 0 61 := cS_r (by decide) (by decide) (by decide) (by decide) (by decide)
theorem HPw_61 {u c : Nat} {S : MI} {v : Int32} : HP u c (uI S 0 61 v) = HP u c S := HP_w (by decide) (by decide) (by decide) (by decide)
theorem cSw_64 {u : Nat} {S c0 : MI} {v : Int32} : uI (cS u S c0) (U u + 1) 64 v = cS u (uI S 0 64 v) c0 := cS_w (by decide) (by decide) (by decide) (by decide) (by decide)
theorem cSr_64 {u : Nat} {S c0 : MI} : cS u S c0 (U u + 1) 64 = S 0 64 := cS_r (by decide) (by decide) (by decide) (by decide) (by decide)
theorem HPw_64 {u c : Nat} {S : MI} {v : Int32} : HP u c (uI S 0 64 v) = HP u c S := HP_w (by decide) (by decide) (by decide) (by decide)
section P9
variable {N u c : Nat} {pb : Nat} {L : ML} {S c0 : MI} {X : Nat → Int32}
theorem drawC : F_X10_draw 1 (cS u S c0) L (GRf pb) = some (uI S 1 0 (S 1 0 + 1) 1 0, cS u (uI S 1 0 (S 1 0 + 1)) c0) := by
  have e1 : cS u S c0 1 4 = S 1 0 := cS_c (j := 0) (by decide)
  have e2 : ∀ v, uI (cS u S c0) 1 4 v = cS u (uI S 1 0 v) c0 := fun v => cS_s (j := 0) (by decide)
  have e3 : ∀ v, cS u (uI S 1 0 v) c0 1 4 = uI S 1 0 v 1 0 := fun v => cS_c (j := 0) (by decide)
  simp only [F_X10_draw, ck_1, if_true, wre, e1, e2, e3]
theorem cS_15 : cS u S c0 1 5 = S 1 1 := cS_c (j := 1) (by decide)
theorem cS_16 : cS u S c0 1 6 = S 1 2 := cS_c (j := 2) (by decide)
theorem cS_s5 {v : Int32} : uI (cS u S c0) 1 5 v = cS u (uI S 1 1 v) c0 := cS_s (j := 1) (by decide)
theorem cS_s6 {v : Int32} : uI (cS u S c0) 1 6 v = cS u (uI S 1 2 v) c0 := cS_s (j := 2) (by decide)
theorem mx1C {v : Int32} {I : MI} {R : MR} : F_J9_max_7cf53 1 v I L R = some (mx1 v) := by
  unfold F_J9_max_7cf53 mx1
  by_cases z : 1 < v
  · rw [if_pos z, if_pos z]
  · rw [if_neg z, if_neg z]
theorem jotC {l x : Int32} (hu : u ≤ 20) (hk : KN S) : F_X10_jot 1 (U u) l x (cS u S c0) L (GRf pb) = some (cS u (jotS u l x S) c0) := by
  obtain ⟨k, k1, k2⟩ := hk
  have e : U u = 58 + 4 * u := rfl
  have e1 : cS u S c0 1 7 = nI k := (cS_c (j := 3) (by decide)).trans k2
  have m1 : (3 : Int32) * nI k = nI (3 * k) := pk_mul 3 k
  have z0 : (nI (3 * k) < 0) = False := eq_false (nI_pos (by omega))
  have z2 : nI (3 * k) + 2 = nI (3 * k + 2) := nI_add _ 2
  have z1 : nI (3 * k) + 1 = nI (3 * k + 1) := nI_1 _
  have zz : (Int32.ofNat 300 ≤ nI (3 * k + 2)) = (300 ≤ 3 * k + 2) := propext (nI_leI (a := 300) (by decide) (by omega))
  have s7 : ∀ (S : MI) v, uI (cS u S c0) 1 7 v = cS u (uI S 1 3 v) c0 := fun S v => cS_s (j := 3) (by decide)
  have r7 : ∀ (S : MI), cS u S c0 1 7 = S 1 3 := fun S => cS_c (j := 3) (by decide)
  unfold jotS
  rw [k2, vN, nI_clamp (by omega)]
  by_cases q : k < 100
  · have w0 : ∀ (S : MI) v, wi (cS u S c0) 3 (nI (3 * k)) v = some (cS u (uI S 2 k v) c0) := fun S v => by
      rw [wi_nI ln_3 (show 3 * k < 300 by omega) (by decide)]; exact congrArg some (cS_n (j := 0) (by decide) q)
    have w1 : ∀ (S : MI) v, wi (cS u S c0) 3 (nI (3 * k + 1)) v = some (cS u (uI S 3 k v) c0) := fun S v => by
      rw [wi_nI ln_3 (show 3 * k + 1 < 300 by omega) (by decide)]; exact congrArg some (cS_n (j := 1) (by decide) q)
    have w2 : ∀ (S : MI) v, wi (cS u S c0) 3 (nI (3 * k + 2)) v = some (cS u (uI S 4 k v) c0) := fun S v => by
      rw [wi_nI ln_3 (show 3 * k + 2 < 300 by omega) (by decide)]; exact congrArg some (cS_n (j := 2) (by decide) q)
    have r3 : ∀ a b d, uI (uI (uI S 2 k a) 3 k b) 4 k d 1 3 = nI k := fun a b d => by rw [uI_at (by omega), uI_at (by omega), uI_at (by omega)]; exact k2
    simp only [F_X10_jot, ck_1, ck_U hu, if_true, wre, e1, m1, z0, if_false, rf_1_2, bse, ln_3, z2, zz, if_neg (show ¬ 300 ≤ 3 * k + 2 by omega), rf_U0 hu, rp_1 hu, cS_r1, w0, z1, w1, w2, b1e, s7, r7, r3, if_pos q]
  · simp only [F_X10_jot, ck_1, ck_U hu, if_true, wre, e1, m1, z0, if_false, rf_1_2, bse, ln_3, z2, zz, if_pos (show 300 ≤ 3 * k + 2 by omega), b1e, s7, if_neg q]
theorem massS (hN : 5000 ≤ N) (hu : u ≤ 20) (hc : c < 29) (h7 : c0 (U u) 7 = nI (chn c).length) (hl : ∀ i, i < (chn c).length → c0 (U u + 2) i = nI ((chn c).getD i 0)) (hp : HP u c S) : F_X9_mass N (U u) (cS u S c0) L (GRf pb) = some (ansV 0 c (S 0)) := by
  have e : U u = 58 + 4 * u := rfl
  rw [massC_ok (cd := c) (by omega) hu hc (by rw [cS_o (by omega) (by omega) (by omega)]; exact h7) (fun i hi => by rw [cS_o (by omega) (by omega) (by omega)]; exact hl i hi)]
  refine congrArg some (ansV_congr hc ?_)
  intro k hk hs
  show cS u S c0 (U u + 1) k = S 0 k
  unfold cS ovl
  rw [if_pos ⟨rfl, hk⟩]
  by_cases z1 : k = 1
  · rw [if_pos z1, z1]; exact hp.1.symm
  rw [if_neg z1]
  by_cases z2 : k = 12
  · rw [if_pos z2, z2]; exact (hp.2.1 (hs.1 z2)).symm
  rw [if_neg z2]
  by_cases z3 : k = 46
  · rw [if_pos z3, z3]; exact (hp.2.2.1 (hs.2.1 z3)).symm
  rw [if_neg z3]
  by_cases z4 : k = 55
  · rw [if_pos z4, z4]; exact (hp.2.2.2 (hs.2.2.1 z4)).symm
  rw [if_neg z4]
theorem spanS (hN : 5000 ≤ N) (hu : u ≤ 20) (hc : c < 29) (h7 : c0 (U u) 7 = nI (chn c).length) (hl : ∀ i, i < (chn c).length → c0 (U u + 2) i = nI ((chn c).getD i 0)) (hp : HP u c S) : F_X9_span N (U u) (cS u S c0) L (GRf pb) = some (ansV 1 c (S 0)) := by
  have e : U u = 58 + 4 * u := rfl
  rw [spanC_ok (cd := c) (by omega) hu hc (by rw [cS_o (by omega) (by omega) (by omega)]; exact h7) (fun i hi => by rw [cS_o (by omega) (by omega) (by omega)]; exact hl i hi)]
  refine congrArg some (ansV_congr hc ?_)
  intro k hk hs
  show cS u S c0 (U u + 1) k = S 0 k
  unfold cS ovl
  rw [if_pos ⟨rfl, hk⟩]
  by_cases z1 : k = 1
  · rw [if_pos z1, z1]; exact hp.1.symm
  rw [if_neg z1]
  by_cases z2 : k = 12
  · rw [if_pos z2, z2]; exact (hp.2.1 (hs.1 z2)).symm
  rw [if_neg z2]
  by_cases z3 : k = 46
  · rw [if_pos z3, z3]; exact (hp.2.2.1 (hs.2.1 z3)).symm
  rw [if_neg z3]
  by_cases z4 : k = 55
  · rw [if_pos z4, z4]; exact (hp.2.2.2 (hs.2.2.1 z4)).symm
  rw [if_neg z4]
theorem needS (hN : 5000 ≤ N) (hu : u ≤ 20) (hc : c < 29) (h7 : c0 (U u) 7 = nI (chn c).length) (hl : ∀ i, i < (chn c).length → c0 (U u + 2) i = nI ((chn c).getD i 0)) (hp : HP u c S) : F_X9_need N (U u) (cS u S c0) L (GRf pb) = some (ansV 2 c (S 0)) := by
  have e : U u = 58 + 4 * u := rfl
  rw [needC_ok (cd := c) (by omega) hu hc (by rw [cS_o (by omega) (by omega) (by omega)]; exact h7) (fun i hi => by rw [cS_o (by omega) (by omega) (by omega)]; exact hl i hi)]
  refine congrArg some (ansV_congr hc ?_)
  intro k hk hs
  show cS u S c0 (U u + 1) k = S 0 k
  unfold cS ovl
  rw [if_pos ⟨rfl, hk⟩]
  by_cases z1 : k = 1
  · rw [if_pos z1, z1]; exact hp.1.symm
  rw [if_neg z1]
  by_cases z2 : k = 12
  · rw [if_pos z2, z2]; exact (hp.2.1 (hs.1 z2)).symm
  rw [if_neg z2]
  by_cases z3 : k = 46
  · rw [if_pos z3, z3]; exact (hp.2.2.1 (hs.2.1 z3)).symm
  rw [if_neg z3]
  by_cases z4 : k = 55
  · rw [if_pos z4, z4]; exact (hp.2.2.2 (hs.2.2.1 z4)).symm
  rw [if_neg z4]
theorem testS (hN : 5000 ≤ N) (hu : u ≤ 20) (hc : c < 29) (h7 : c0 (U u) 7 = nI (chn c).length) (hl : ∀ i, i < (chn c).length → c0 (U u + 2) i = nI ((chn c).getD i 0)) (hp : HP u c S) : F_X9_test N (U u) (cS u S c0) L (GRf pb) = some (ansV 3 c (S 0)) := by
  have e : U u = 58 + 4 * u := rfl
  rw [testC_ok (cd := c) (by omega) hu hc (by rw [cS_o (by omega) (by omega) (by omega)]; exact h7) (fun i hi => by rw [cS_o (by omega) (by omega) (by omega)]; exact hl i hi)]
  refine congrArg some (ansV_congr hc ?_)
  intro k hk hs
  show cS u S c0 (U u + 1) k = S 0 k
  unfold cS ovl
  rw [if_pos ⟨rfl, hk⟩]
  by_cases z1 : k = 1
  · rw [if_pos z1, z1]; exact hp.1.symm
  rw [if_neg z1]
  by_cases z2 : k = 12
  · rw [if_pos z2, z2]; exact (hp.2.1 (hs.1 z2)).symm
  rw [if_neg z2]
  by_cases z3 : k = 46
  · rw [if_pos z3, z3]; exact (hp.2.2.1 (hs.2.1 z3)).symm
  rw [if_neg z3]
  by_cases z4 : k = 55
  · rw [if_pos z4, z4]; exact (hp.2.2.2 (hs.2.2.1 z4)).symm
  rw [if_neg z4]
theorem channelsS (hN : 5000 ≤ N) (hu : u ≤ 20) (hc : c < 29) (h7 : c0 (U u) 7 = nI (chn c).length) (hl : ∀ i, i < (chn c).length → c0 (U u + 2) i = nI ((chn c).getD i 0)) (hp : HP u c S) : F_X9_channels N (U u) (cS u S c0) L (GRf pb) = some (ansV 4 c (S 0)) := by
  have e : U u = 58 + 4 * u := rfl
  rw [channelsC_ok (cd := c) (by omega) hu hc (by rw [cS_o (by omega) (by omega) (by omega)]; exact h7) (fun i hi => by rw [cS_o (by omega) (by omega) (by omega)]; exact hl i hi)]
  refine congrArg some (ansV_congr hc ?_)
  intro k hk hs
  show cS u S c0 (U u + 1) k = S 0 k
  unfold cS ovl
  rw [if_pos ⟨rfl, hk⟩]
  by_cases z1 : k = 1
  · rw [if_pos z1, z1]; exact hp.1.symm
  rw [if_neg z1]
  by_cases z2 : k = 12
  · rw [if_pos z2, z2]; exact (hp.2.1 (hs.1 z2)).symm
  rw [if_neg z2]
  by_cases z3 : k = 46
  · rw [if_pos z3, z3]; exact (hp.2.2.1 (hs.2.1 z3)).symm
  rw [if_neg z3]
  by_cases z4 : k = 55
  · rw [if_pos z4, z4]; exact (hp.2.2.2 (hs.2.2.1 z4)).symm
  rw [if_neg z4]
theorem pushS (hN : 5000 ≤ N) (hu : u ≤ 20) (hc : c < 29) (h7 : c0 (U u) 7 = nI (chn c).length) (hl : ∀ i, i < (chn c).length → c0 (U u + 2) i = nI ((chn c).getD i 0)) (hp : HP u c S) : F_X9_push N (U u) (cS u S c0) L (GRf pb) = some (ansV 5 c (S 0)) := by
  have e : U u = 58 + 4 * u := rfl
  rw [pushC_ok (cd := c) (by omega) hu hc (by rw [cS_o (by omega) (by omega) (by omega)]; exact h7) (fun i hi => by rw [cS_o (by omega) (by omega) (by omega)]; exact hl i hi)]
  refine congrArg some (ansV_congr hc ?_)
  intro k hk hs
  show cS u S c0 (U u + 1) k = S 0 k
  unfold cS ovl
  rw [if_pos ⟨rfl, hk⟩]
  by_cases z1 : k = 1
  · rw [if_pos z1, z1]; exact hp.1.symm
  rw [if_neg z1]
  by_cases z2 : k = 12
  · rw [if_pos z2, z2]; exact (hp.2.1 (hs.1 z2)).symm
  rw [if_neg z2]
  by_cases z3 : k = 46
  · rw [if_pos z3, z3]; exact (hp.2.2.1 (hs.2.1 z3)).symm
  rw [if_neg z3]
  by_cases z4 : k = 55
  · rw [if_pos z4, z4]; exact (hp.2.2.2 (hs.2.2.1 z4)).symm
  rw [if_neg z4]
theorem cS_x {i : Nat} (hi : i < 3) : cS u S c0 (U u) (4 + i) = c0 (U u) (4 + i) := by
  have e : U u = 58 + 4 * u := rfl
  exact cS_o (by omega) (by omega) (by omega)
theorem mkC_0 (hp0 : HP u c (uI S 0 1 (nI u))) (hN : 5000 ≤ N) (hu : u ≤ 20) (hc : c < 29) (hkn : kin c) (hil : isL c 0 = true) (h7 : c0 (U u) 7 = nI (chn c).length) (hl : ∀ i, i < (chn c).length → c0 (U u + 2) i = nI ((chn c).getD i 0)) (hX : ∀ i, i < mny c → c0 (U u) (4 + i) = X i) (hk : KN S) : F_X10_makeUnit N 1 (U u) (cS u S c0) L (GRf pb) = some (cS u (lay_0 u c X S) c0) := by
  have hm : 0 ≤ mny c := (show ∀ c, c < 29 → kin c → isL c 0 = true → 0 ≤ mny c by unfold kin; decide) c hc hkn hil
  rw [← cS_1 (S := S) (v := nI u)]
  have hp : HP u c (uI S 0 1 (nI u)) := hp0
  have hk : KN (uI S 0 1 (nI u)) := by rw [KN_w]; exact hk
  unfold lay_0
  rw [wre]
  generalize uI S 0 1 (nI u) = S at *
  simp (decide := true) only [F_X10_makeUnit, ck_1, if_true, ck_U hu, rf_U0 hu, bse, b1e, b2e, wre, drawC, cS_15, cS_16, cS_s5, cS_s6, mx1C, HP_1, KN_w, KN_1, ne_eq, hp, hk, massS hN hu hc h7 hl, spanS hN hu hc h7 hl, needS hN hu hc h7 hl, testS hN hu hc h7 hl, channelsS hN hu hc h7 hl, pushS hN hu hc h7 hl, jotC hu, rp_5 hu, cSr_5, rp_6 hu, cSr_6, wp_2 hu, cSw_2, HPw_2, wp_3 hu, cSw_3, HPw_3, wp_4 hu, cSw_4, HPw_4, wp_5 hu, cSw_5, HPw_5, wp_6 hu, cSw_6, HPw_6]
theorem mkC_1 (hN : 5000 ≤ N) (hu : u ≤ 20) (hc : c < 29) (hkn : kin c) (hil : isL c 1 = true) (h7 : c0 (U u) 7 = nI (chn c).length) (hl : ∀ i, i < (chn c).length → c0 (U u + 2) i = nI ((chn c).getD i 0)) (hX : ∀ i, i < mny c → c0 (U u) (4 + i) = X i) (hp : HP u c S) (hk : KN S) : F_X10_makeStore N 1 (U u) (cS u S c0) L (GRf pb) = some (cS u (lay_1 u c X S) c0) := by
  have hm : 1 ≤ mny c := (show ∀ c, c < 29 → kin c → isL c 1 = true → 1 ≤ mny c by unfold kin; decide) c hc hkn hil
  have x0 : ∀ S, cS u S c0 (U u) 4 = X 0 := fun S => (cS_x (i := 0) (by decide)).trans (hX 0 (by omega))
  simp (decide := true) only [F_X10_makeStore, lay_1, ck_1, if_true, ck_U hu, rf_U0 hu, bse, b1e, b2e, wre, drawC, cS_15, cS_16, cS_s5, cS_s6, mx1C, x0, HP_1, KN_w, KN_1, ne_eq, hp, hk, massS hN hu hc h7 hl, spanS hN hu hc h7 hl, needS hN hu hc h7 hl, testS hN hu hc h7 hl, channelsS hN hu hc h7 hl, pushS hN hu hc h7 hl, jotC hu, rp_3 hu, cSr_3, rp_8 hu, cSr_8, rp_9 hu, cSr_9, wp_7 hu, cSw_7, HPw_7, wp_8 hu, cSw_8, HPw_8, wp_9 hu, cSw_9, HPw_9, wp_10 hu, cSw_10, HPw_10]
theorem mkC_2 (hN : 5000 ≤ N) (hu : u ≤ 20) (hc : c < 29) (hkn : kin c) (hil : isL c 2 = true) (h7 : c0 (U u) 7 = nI (chn c).length) (hl : ∀ i, i < (chn c).length → c0 (U u + 2) i = nI ((chn c).getD i 0)) (hX : ∀ i, i < mny c → c0 (U u) (4 + i) = X i) (hp : HP u c S) (hk : KN S) : F_X10_makeBattery N 1 (U u) (cS u S c0) L (GRf pb) = some (cS u (lay_2 u c X S) c0) := by
  have hm : 0 ≤ mny c := (show ∀ c, c < 29 → kin c → isL c 2 = true → 0 ≤ mny c by unfold kin; decide) c hc hkn hil
  simp (decide := true) only [F_X10_makeBattery, lay_2, ck_1, if_true, ck_U hu, rf_U0 hu, bse, b1e, b2e, wre, drawC, cS_15, cS_16, cS_s5, cS_s6, mx1C, HP_1, KN_w, KN_1, ne_eq, hp, hk, massS hN hu hc h7 hl, spanS hN hu hc h7 hl, needS hN hu hc h7 hl, testS hN hu hc h7 hl, channelsS hN hu hc h7 hl, pushS hN hu hc h7 hl, jotC hu, rp_9 hu, cSr_9, rp_13 hu, cSr_13, wp_10 hu, cSw_10, HPw_10, wp_11 hu, cSw_11, HPw_11, wp_13 hu, cSw_13, HPw_13]
theorem mkC_3 (hN : 5000 ≤ N) (hu : u ≤ 20) (hc : c < 29) (hkn : kin c) (hil : isL c 3 = true) (h7 : c0 (U u) 7 = nI (chn c).length) (hl : ∀ i, i < (chn c).length → c0 (U u + 2) i = nI ((chn c).getD i 0)) (hX : ∀ i, i < mny c → c0 (U u) (4 + i) = X i) (hp : HP u c S) (hk : KN S) : F_X10_makeCellpack N 1 (U u) (cS u S c0) L (GRf pb) = some (cS u (lay_3 u c X S) c0) := by
  have hm : 2 ≤ mny c := (show ∀ c, c < 29 → kin c → isL c 3 = true → 2 ≤ mny c by unfold kin; decide) c hc hkn hil
  have x1 : ∀ S, cS u S c0 (U u) 5 = X 1 := fun S => (cS_x (i := 1) (by decide)).trans (hX 1 (by omega))
  simp (decide := true) only [F_X10_makeCellpack, lay_3, ck_1, if_true, ck_U hu, rf_U0 hu, bse, b1e, b2e, wre, drawC, cS_15, cS_16, cS_s5, cS_s6, mx1C, x1, HP_1, KN_w, KN_1, ne_eq, hp, hk, massS hN hu hc h7 hl, spanS hN hu hc h7 hl, needS hN hu hc h7 hl, testS hN hu hc h7 hl, channelsS hN hu hc h7 hl, pushS hN hu hc h7 hl, jotC hu, rp_10 hu, cSr_10, rp_11 hu, cSr_11, rp_13 hu, cSr_13, rp_15 hu, cSr_15, rp_16 hu, cSr_16, wp_10 hu, cSw_10, HPw_10, wp_13 hu, cSw_13, HPw_13, wp_14 hu, cSw_14, HPw_14, wp_15 hu, cSw_15, HPw_15, wp_16 hu, cSw_16, HPw_16]
theorem mkC_4 (hN : 5000 ≤ N) (hu : u ≤ 20) (hc : c < 29) (hkn : kin c) (hil : isL c 4 = true) (h7 : c0 (U u) 7 = nI (chn c).length) (hl : ∀ i, i < (chn c).length → c0 (U u + 2) i = nI ((chn c).getD i 0)) (hX : ∀ i, i < mny c → c0 (U u) (4 + i) = X i) (hp : HP u c S) (hk : KN S) : F_X10_makeTank 1 (U u) (cS u S c0) L (GRf pb) = some (cS u (lay_4 u c X S) c0) := by
  have hm : 0 ≤ mny c := (show ∀ c, c < 29 → kin c → isL c 4 = true → 0 ≤ mny c by unfold kin; decide) c hc hkn hil
  simp (decide := true) only [F_X10_makeTank, lay_4, ck_1, if_true, ck_U hu, rf_U0 hu, bse, b1e, b2e, wre, drawC, cS_15, cS_16, cS_s5, cS_s6, mx1C, HP_1, KN_w, KN_1, ne_eq, hp, hk, massS hN hu hc h7 hl, spanS hN hu hc h7 hl, needS hN hu hc h7 hl, testS hN hu hc h7 hl, channelsS hN hu hc h7 hl, pushS hN hu hc h7 hl, jotC hu, rp_4 hu, cSr_4, rp_9 hu, cSr_9, rp_17 hu, cSr_17, wp_10 hu, cSw_10, HPw_10, wp_17 hu, cSw_17, HPw_17]
theorem mkC_5 (hN : 5000 ≤ N) (hu : u ≤ 20) (hc : c < 29) (hkn : kin c) (hil : isL c 5 = true) (h7 : c0 (U u) 7 = nI (chn c).length) (hl : ∀ i, i < (chn c).length → c0 (U u + 2) i = nI ((chn c).getD i 0)) (hX : ∀ i, i < mny c → c0 (U u) (4 + i) = X i) (hp : HP u c S) (hk : KN S) : F_X10_makeRecorder N 1 (U u) (cS u S c0) L (GRf pb) = some (cS u (lay_5 u c X S) c0) := by
  have hm : 0 ≤ mny c := (show ∀ c, c < 29 → kin c → isL c 5 = true → 0 ≤ mny c by unfold kin; decide) c hc hkn hil
  simp (decide := true) only [F_X10_makeRecorder, lay_5, ck_1, if_true, ck_U hu, rf_U0 hu, bse, b1e, b2e, wre, drawC, cS_15, cS_16, cS_s5, cS_s6, mx1C, HP_1, KN_w, KN_1, ne_eq, hp, hk, massS hN hu hc h7 hl, spanS hN hu hc h7 hl, needS hN hu hc h7 hl, testS hN hu hc h7 hl, channelsS hN hu hc h7 hl, pushS hN hu hc h7 hl, jotC hu, rp_9 hu, cSr_9, rp_10 hu, cSr_10, rp_19 hu, cSr_19, rp_20 hu, cSr_20, wp_10 hu, cSw_10, HPw_10, wp_18 hu, cSw_18, HPw_18, wp_19 hu, cSw_19, HPw_19, wp_20 hu, cSw_20, HPw_20]
theorem mkC_6 (hN : 5000 ≤ N) (hu : u ≤ 20) (hc : c < 29) (hkn : kin c) (hil : isL c 6 = true) (h7 : c0 (U u) 7 = nI (chn c).length) (hl : ∀ i, i < (chn c).length → c0 (U u + 2) i = nI ((chn c).getD i 0)) (hX : ∀ i, i < mny c → c0 (U u) (4 + i) = X i) (hp : HP u c S) (hk : KN S) : F_X10_makeLoad N 1 (U u) (cS u S c0) L (GRf pb) = some (cS u (lay_6 u c X S) c0) := by
  have hm : 1 ≤ mny c := (show ∀ c, c < 29 → kin c → isL c 6 = true → 1 ≤ mny c by unfold kin; decide) c hc hkn hil
  have x0 : ∀ S, cS u S c0 (U u) 4 = X 0 := fun S => (cS_x (i := 0) (by decide)).trans (hX 0 (by omega))
  simp (decide := true) only [F_X10_makeLoad, lay_6, ck_1, if_true, ck_U hu, rf_U0 hu, bse, b1e, b2e, wre, drawC, cS_15, cS_16, cS_s5, cS_s6, mx1C, x0, HP_1, KN_w, KN_1, ne_eq, hp, hk, massS hN hu hc h7 hl, spanS hN hu hc h7 hl, needS hN hu hc h7 hl, testS hN hu hc h7 hl, channelsS hN hu hc h7 hl, pushS hN hu hc h7 hl, jotC hu, rp_2 hu, cSr_2, rp_24 hu, cSr_24, wp_21 hu, cSw_21, HPw_21, wp_22 hu, cSw_22, HPw_22, wp_23 hu, cSw_23, HPw_23, wp_24 hu, cSw_24, HPw_24]
theorem mkC_7 (hN : 5000 ≤ N) (hu : u ≤ 20) (hc : c < 29) (hkn : kin c) (hil : isL c 7 = true) (h7 : c0 (U u) 7 = nI (chn c).length) (hl : ∀ i, i < (chn c).length → c0 (U u + 2) i = nI ((chn c).getD i 0)) (hX : ∀ i, i < mny c → c0 (U u) (4 + i) = X i) (hp : HP u c S) (hk : KN S) : F_X10_makeHeater N 1 (U u) (cS u S c0) L (GRf pb) = some (cS u (lay_7 u c X S) c0) := by
  have hm : 0 ≤ mny c := (show ∀ c, c < 29 → kin c → isL c 7 = true → 0 ≤ mny c by unfold kin; decide) c hc hkn hil
  simp (decide := true) only [F_X10_makeHeater, lay_7, ck_1, if_true, ck_U hu, rf_U0 hu, bse, b1e, b2e, wre, drawC, cS_15, cS_16, cS_s5, cS_s6, mx1C, HP_1, KN_w, KN_1, ne_eq, hp, hk, massS hN hu hc h7 hl, spanS hN hu hc h7 hl, needS hN hu hc h7 hl, testS hN hu hc h7 hl, channelsS hN hu hc h7 hl, pushS hN hu hc h7 hl, jotC hu, rp_25 hu, cSr_25, wp_25 hu, cSw_25, HPw_25]
theorem mkC_8 (hN : 5000 ≤ N) (hu : u ≤ 20) (hc : c < 29) (hkn : kin c) (hil : isL c 8 = true) (h7 : c0 (U u) 7 = nI (chn c).length) (hl : ∀ i, i < (chn c).length → c0 (U u + 2) i = nI ((chn c).getD i 0)) (hX : ∀ i, i < mny c → c0 (U u) (4 + i) = X i) (hp : HP u c S) (hk : KN S) : F_X10_makeThermo N 1 (U u) (cS u S c0) L (GRf pb) = some (cS u (lay_8 u c X S) c0) := by
  have hm : 3 ≤ mny c := (show ∀ c, c < 29 → kin c → isL c 8 = true → 3 ≤ mny c by unfold kin; decide) c hc hkn hil
  have x1 : ∀ S, cS u S c0 (U u) 5 = X 1 := fun S => (cS_x (i := 1) (by decide)).trans (hX 1 (by omega))
  have x2 : ∀ S, cS u S c0 (U u) 6 = X 2 := fun S => (cS_x (i := 2) (by decide)).trans (hX 2 (by omega))
  simp (decide := true) only [F_X10_makeThermo, lay_8, ck_1, if_true, ck_U hu, rf_U0 hu, bse, b1e, b2e, wre, drawC, cS_15, cS_16, cS_s5, cS_s6, mx1C, x1, x2, HP_1, KN_w, KN_1, ne_eq, hp, hk, massS hN hu hc h7 hl, spanS hN hu hc h7 hl, needS hN hu hc h7 hl, testS hN hu hc h7 hl, channelsS hN hu hc h7 hl, pushS hN hu hc h7 hl, jotC hu, rp_21 hu, cSr_21, rp_25 hu, cSr_25, wp_26 hu, cSw_26, HPw_26, wp_27 hu, cSw_27, HPw_27, wp_28 hu, cSw_28, HPw_28]
theorem mkC_9 (hN : 5000 ≤ N) (hu : u ≤ 20) (hc : c < 29) (hkn : kin c) (hil : isL c 9 = true) (h7 : c0 (U u) 7 = nI (chn c).length) (hl : ∀ i, i < (chn c).length → c0 (U u + 2) i = nI ((chn c).getD i 0)) (hX : ∀ i, i < mny c → c0 (U u) (4 + i) = X i) (hp : HP u c S) (hk : KN S) : F_X10_makeSensor N 1 (U u) (cS u S c0) L (GRf pb) = some (cS u (lay_9 u c X S) c0) := by
  have hm : 2 ≤ mny c := (show ∀ c, c < 29 → kin c → isL c 9 = true → 2 ≤ mny c by unfold kin; decide) c hc hkn hil
  have x1 : ∀ S, cS u S c0 (U u) 5 = X 1 := fun S => (cS_x (i := 1) (by decide)).trans (hX 1 (by omega))
  simp (decide := true) only [F_X10_makeSensor, lay_9, ck_1, if_true, ck_U hu, rf_U0 hu, bse, b1e, b2e, wre, drawC, cS_15, cS_16, cS_s5, cS_s6, mx1C, x1, HP_1, KN_w, KN_1, ne_eq, hp, hk, massS hN hu hc h7 hl, spanS hN hu hc h7 hl, needS hN hu hc h7 hl, testS hN hu hc h7 hl, channelsS hN hu hc h7 hl, pushS hN hu hc h7 hl, jotC hu, rp_30 hu, cSr_30, wp_29 hu, cSw_29, HPw_29, wp_30 hu, cSw_30, HPw_30, wp_31 hu, cSw_31, HPw_31, wp_32 hu, cSw_32, HPw_32]
theorem mkC_10 (hN : 5000 ≤ N) (hu : u ≤ 20) (hc : c < 29) (hkn : kin c) (hil : isL c 10 = true) (h7 : c0 (U u) 7 = nI (chn c).length) (hl : ∀ i, i < (chn c).length → c0 (U u + 2) i = nI ((chn c).getD i 0)) (hX : ∀ i, i < mny c → c0 (U u) (4 + i) = X i) (hp : HP u c S) (hk : KN S) : F_X10_makeGyro N 1 (U u) (cS u S c0) L (GRf pb) = some (cS u (lay_10 u c X S) c0) := by
  have hm : 3 ≤ mny c := (show ∀ c, c < 29 → kin c → isL c 10 = true → 3 ≤ mny c by unfold kin; decide) c hc hkn hil
  have x2 : ∀ S, cS u S c0 (U u) 6 = X 2 := fun S => (cS_x (i := 2) (by decide)).trans (hX 2 (by omega))
  simp (decide := true) only [F_X10_makeGyro, lay_10, ck_1, if_true, ck_U hu, rf_U0 hu, bse, b1e, b2e, wre, drawC, cS_15, cS_16, cS_s5, cS_s6, mx1C, x2, HP_1, KN_w, KN_1, ne_eq, hp, hk, massS hN hu hc h7 hl, spanS hN hu hc h7 hl, needS hN hu hc h7 hl, testS hN hu hc h7 hl, channelsS hN hu hc h7 hl, pushS hN hu hc h7 hl, jotC hu, rp_29 hu, cSr_29, rp_33 hu, cSr_33, wp_30 hu, cSw_30, HPw_30, wp_33 hu, cSw_33, HPw_33, wp_34 hu, cSw_34, HPw_34, wp_35 hu, cSw_35, HPw_35]
theorem mkC_11 (hN : 5000 ≤ N) (hu : u ≤ 20) (hc : c < 29) (hkn : kin c) (hil : isL c 11 = true) (h7 : c0 (U u) 7 = nI (chn c).length) (hl : ∀ i, i < (chn c).length → c0 (U u + 2) i = nI ((chn c).getD i 0)) (hX : ∀ i, i < mny c → c0 (U u) (4 + i) = X i) (hp : HP u c S) (hk : KN S) : F_X10_makeFinegyro N 1 (U u) (cS u S c0) L (GRf pb) = some (cS u (lay_11 u c X S) c0) := by
  have hm : 0 ≤ mny c := (show ∀ c, c < 29 → kin c → isL c 11 = true → 0 ≤ mny c by unfold kin; decide) c hc hkn hil
  simp (decide := true) only [F_X10_makeFinegyro, lay_11, ck_1, if_true, ck_U hu, rf_U0 hu, bse, b1e, b2e, wre, drawC, cS_15, cS_16, cS_s5, cS_s6, mx1C, HP_1, KN_w, KN_1, ne_eq, hp, hk, massS hN hu hc h7 hl, spanS hN hu hc h7 hl, needS hN hu hc h7 hl, testS hN hu hc h7 hl, channelsS hN hu hc h7 hl, pushS hN hu hc h7 hl, jotC hu, rp_30 hu, cSr_30, rp_33 hu, cSr_33, wp_30 hu, cSw_30, HPw_30, wp_33 hu, cSw_33, HPw_33, wp_34 hu, cSw_34, HPw_34, wp_36 hu, cSw_36, HPw_36]
theorem mkC_12 (hN : 5000 ≤ N) (hu : u ≤ 20) (hc : c < 29) (hkn : kin c) (hil : isL c 12 = true) (h7 : c0 (U u) 7 = nI (chn c).length) (hl : ∀ i, i < (chn c).length → c0 (U u + 2) i = nI ((chn c).getD i 0)) (hX : ∀ i, i < mny c → c0 (U u) (4 + i) = X i) (hp : HP u c S) (hk : KN S) : F_X10_makeSuneye 1 (U u) (cS u S c0) L (GRf pb) = some (cS u (lay_12 u c X S) c0) := by
  have hm : 0 ≤ mny c := (show ∀ c, c < 29 → kin c → isL c 12 = true → 0 ≤ mny c by unfold kin; decide) c hc hkn hil
  simp (decide := true) only [F_X10_makeSuneye, lay_12, ck_1, if_true, ck_U hu, rf_U0 hu, bse, b1e, b2e, wre, drawC, cS_15, cS_16, cS_s5, cS_s6, mx1C, HP_1, KN_w, KN_1, ne_eq, hp, hk, massS hN hu hc h7 hl, spanS hN hu hc h7 hl, needS hN hu hc h7 hl, testS hN hu hc h7 hl, channelsS hN hu hc h7 hl, pushS hN hu hc h7 hl, jotC hu, rp_29 hu, cSr_29, rp_37 hu, cSr_37, wp_37 hu, cSw_37, HPw_37]
theorem mkC_13 (hN : 5000 ≤ N) (hu : u ≤ 20) (hc : c < 29) (hkn : kin c) (hil : isL c 13 = true) (h7 : c0 (U u) 7 = nI (chn c).length) (hl : ∀ i, i < (chn c).length → c0 (U u + 2) i = nI ((chn c).getD i 0)) (hX : ∀ i, i < mny c → c0 (U u) (4 + i) = X i) (hp : HP u c S) (hk : KN S) : F_X10_makeProbe 1 (U u) (cS u S c0) L (GRf pb) = some (cS u (lay_13 u c X S) c0) := by
  have hm : 3 ≤ mny c := (show ∀ c, c < 29 → kin c → isL c 13 = true → 3 ≤ mny c by unfold kin; decide) c hc hkn hil
  have x2 : ∀ S, cS u S c0 (U u) 6 = X 2 := fun S => (cS_x (i := 2) (by decide)).trans (hX 2 (by omega))
  simp (decide := true) only [F_X10_makeProbe, lay_13, ck_1, if_true, ck_U hu, rf_U0 hu, bse, b1e, b2e, wre, drawC, cS_15, cS_16, cS_s5, cS_s6, mx1C, x2, HP_1, KN_w, KN_1, ne_eq, hp, hk, massS hN hu hc h7 hl, spanS hN hu hc h7 hl, needS hN hu hc h7 hl, testS hN hu hc h7 hl, channelsS hN hu hc h7 hl, pushS hN hu hc h7 hl, jotC hu, rp_29 hu, cSr_29, rp_38 hu, cSr_38, wp_27 hu, cSw_27, HPw_27, wp_38 hu, cSw_38, HPw_38]
theorem mkC_14 (hN : 5000 ≤ N) (hu : u ≤ 20) (hc : c < 29) (hkn : kin c) (hil : isL c 14 = true) (h7 : c0 (U u) 7 = nI (chn c).length) (hl : ∀ i, i < (chn c).length → c0 (U u + 2) i = nI ((chn c).getD i 0)) (hX : ∀ i, i < mny c → c0 (U u) (4 + i) = X i) (hp : HP u c S) (hk : KN S) : F_X10_makeCamera 1 (U u) (cS u S c0) L (GRf pb) = some (cS u (lay_14 u c X S) c0) := by
  have hm : 3 ≤ mny c := (show ∀ c, c < 29 → kin c → isL c 14 = true → 3 ≤ mny c by unfold kin; decide) c hc hkn hil
  have x2 : ∀ S, cS u S c0 (U u) 6 = X 2 := fun S => (cS_x (i := 2) (by decide)).trans (hX 2 (by omega))
  simp (decide := true) only [F_X10_makeCamera, lay_14, ck_1, if_true, ck_U hu, rf_U0 hu, bse, b1e, b2e, wre, drawC, cS_15, cS_16, cS_s5, cS_s6, mx1C, x2, HP_1, KN_w, KN_1, ne_eq, hp, hk, massS hN hu hc h7 hl, spanS hN hu hc h7 hl, needS hN hu hc h7 hl, testS hN hu hc h7 hl, channelsS hN hu hc h7 hl, pushS hN hu hc h7 hl, jotC hu, rp_30 hu, cSr_30, rp_39 hu, cSr_39, wp_27 hu, cSw_27, HPw_27, wp_39 hu, cSw_39, HPw_39, wp_40 hu, cSw_40, HPw_40]
theorem mkC_15 (hN : 5000 ≤ N) (hu : u ≤ 20) (hc : c < 29) (hkn : kin c) (hil : isL c 15 = true) (h7 : c0 (U u) 7 = nI (chn c).length) (hl : ∀ i, i < (chn c).length → c0 (U u + 2) i = nI ((chn c).getD i 0)) (hX : ∀ i, i < mny c → c0 (U u) (4 + i) = X i) (hp : HP u c S) (hk : KN S) : F_X10_makeActuator N 1 (U u) (cS u S c0) L (GRf pb) = some (cS u (lay_15 u c X S) c0) := by
  have hm : 2 ≤ mny c := (show ∀ c, c < 29 → kin c → isL c 15 = true → 2 ≤ mny c by unfold kin; decide) c hc hkn hil
  have x1 : ∀ S, cS u S c0 (U u) 5 = X 1 := fun S => (cS_x (i := 1) (by decide)).trans (hX 1 (by omega))
  simp (decide := true) only [F_X10_makeActuator, lay_15, ck_1, if_true, ck_U hu, rf_U0 hu, bse, b1e, b2e, wre, drawC, cS_15, cS_16, cS_s5, cS_s6, mx1C, x1, HP_1, KN_w, KN_1, ne_eq, hp, hk, massS hN hu hc h7 hl, spanS hN hu hc h7 hl, needS hN hu hc h7 hl, testS hN hu hc h7 hl, channelsS hN hu hc h7 hl, pushS hN hu hc h7 hl, jotC hu, rp_41 hu, cSr_41, rp_42 hu, cSr_42, wp_35 hu, cSw_35, HPw_35, wp_41 hu, cSw_41, HPw_41, wp_42 hu, cSw_42, HPw_42]
theorem mkC_16 (hN : 5000 ≤ N) (hu : u ≤ 20) (hc : c < 29) (hkn : kin c) (hil : isL c 16 = true) (h7 : c0 (U u) 7 = nI (chn c).length) (hl : ∀ i, i < (chn c).length → c0 (U u + 2) i = nI ((chn c).getD i 0)) (hX : ∀ i, i < mny c → c0 (U u) (4 + i) = X i) (hp : HP u c S) (hk : KN S) : F_X10_makeWheel 1 (U u) (cS u S c0) L (GRf pb) = some (cS u (lay_16 u c X S) c0) := by
  have hm : 0 ≤ mny c := (show ∀ c, c < 29 → kin c → isL c 16 = true → 0 ≤ mny c by unfold kin; decide) c hc hkn hil
  simp (decide := true) only [F_X10_makeWheel, lay_16, ck_1, if_true, ck_U hu, rf_U0 hu, bse, b1e, b2e, wre, drawC, cS_15, cS_16, cS_s5, cS_s6, mx1C, HP_1, KN_w, KN_1, ne_eq, hp, hk, massS hN hu hc h7 hl, spanS hN hu hc h7 hl, needS hN hu hc h7 hl, testS hN hu hc h7 hl, channelsS hN hu hc h7 hl, pushS hN hu hc h7 hl, jotC hu, rp_2 hu, cSr_2, rp_42 hu, cSr_42, rp_43 hu, cSr_43, wp_43 hu, cSw_43, HPw_43, wp_44 hu, cSw_44, HPw_44]
theorem mkC_17 (hN : 5000 ≤ N) (hu : u ≤ 20) (hc : c < 29) (hkn : kin c) (hil : isL c 17 = true) (h7 : c0 (U u) 7 = nI (chn c).length) (hl : ∀ i, i < (chn c).length → c0 (U u + 2) i = nI ((chn c).getD i 0)) (hX : ∀ i, i < mny c → c0 (U u) (4 + i) = X i) (hp : HP u c S) (hk : KN S) : F_X10_makeCoil N 1 (U u) (cS u S c0) L (GRf pb) = some (cS u (lay_17 u c X S) c0) := by
  have hm : 0 ≤ mny c := (show ∀ c, c < 29 → kin c → isL c 17 = true → 0 ≤ mny c by unfold kin; decide) c hc hkn hil
  simp (decide := true) only [F_X10_makeCoil, lay_17, ck_1, if_true, ck_U hu, rf_U0 hu, bse, b1e, b2e, wre, drawC, cS_15, cS_16, cS_s5, cS_s6, mx1C, HP_1, KN_w, KN_1, ne_eq, hp, hk, massS hN hu hc h7 hl, spanS hN hu hc h7 hl, needS hN hu hc h7 hl, testS hN hu hc h7 hl, channelsS hN hu hc h7 hl, pushS hN hu hc h7 hl, jotC hu, rp_41 hu, cSr_41, rp_42 hu, cSr_42, wp_42 hu, cSw_42, HPw_42, wp_45 hu, cSw_45, HPw_45]
theorem mkC_18 (hN : 5000 ≤ N) (hu : u ≤ 20) (hc : c < 29) (hkn : kin c) (hil : isL c 18 = true) (h7 : c0 (U u) 7 = nI (chn c).length) (hl : ∀ i, i < (chn c).length → c0 (U u + 2) i = nI ((chn c).getD i 0)) (hX : ∀ i, i < mny c → c0 (U u) (4 + i) = X i) (hp : HP u c S) (hk : KN S) : F_X10_makeJet N 1 (U u) (cS u S c0) L (GRf pb) = some (cS u (lay_18 u c X S) c0) := by
  have hm : 3 ≤ mny c := (show ∀ c, c < 29 → kin c → isL c 18 = true → 3 ≤ mny c by unfold kin; decide) c hc hkn hil
  have x2 : ∀ S, cS u S c0 (U u) 6 = X 2 := fun S => (cS_x (i := 2) (by decide)).trans (hX 2 (by omega))
  simp (decide := true) only [F_X10_makeJet, lay_18, ck_1, if_true, ck_U hu, rf_U0 hu, bse, b1e, b2e, wre, drawC, cS_15, cS_16, cS_s5, cS_s6, mx1C, x2, HP_1, KN_w, KN_1, ne_eq, hp, hk, massS hN hu hc h7 hl, spanS hN hu hc h7 hl, needS hN hu hc h7 hl, testS hN hu hc h7 hl, channelsS hN hu hc h7 hl, pushS hN hu hc h7 hl, jotC hu, wp_27 hu, cSw_27, HPw_27, wp_40 hu, cSw_40, HPw_40, wp_47 hu, cSw_47, HPw_47]
theorem mkC_19 (hN : 5000 ≤ N) (hu : u ≤ 20) (hc : c < 29) (hkn : kin c) (hil : isL c 19 = true) (h7 : c0 (U u) 7 = nI (chn c).length) (hl : ∀ i, i < (chn c).length → c0 (U u + 2) i = nI ((chn c).getD i 0)) (hX : ∀ i, i < mny c → c0 (U u) (4 + i) = X i) (hp : HP u c S) (hk : KN S) : F_X10_makePulser N 1 (U u) (cS u S c0) L (GRf pb) = some (cS u (lay_19 u c X S) c0) := by
  have hm : 0 ≤ mny c := (show ∀ c, c < 29 → kin c → isL c 19 = true → 0 ≤ mny c by unfold kin; decide) c hc hkn hil
  simp (decide := true) only [F_X10_makePulser, lay_19, ck_1, if_true, ck_U hu, rf_U0 hu, bse, b1e, b2e, wre, drawC, cS_15, cS_16, cS_s5, cS_s6, mx1C, HP_1, KN_w, KN_1, ne_eq, hp, hk, massS hN hu hc h7 hl, spanS hN hu hc h7 hl, needS hN hu hc h7 hl, testS hN hu hc h7 hl, channelsS hN hu hc h7 hl, pushS hN hu hc h7 hl, jotC hu, rp_42 hu, cSr_42, rp_47 hu, cSr_47, wp_42 hu, cSw_42, HPw_42, wp_48 hu, cSw_48, HPw_48]
theorem mkC_20 (hN : 5000 ≤ N) (hu : u ≤ 20) (hc : c < 29) (hkn : kin c) (hil : isL c 20 = true) (h7 : c0 (U u) 7 = nI (chn c).length) (hl : ∀ i, i < (chn c).length → c0 (U u + 2) i = nI ((chn c).getD i 0)) (hX : ∀ i, i < mny c → c0 (U u) (4 + i) = X i) (hp : HP u c S) (hk : KN S) : F_X10_makeRadio 1 (U u) (cS u S c0) L (GRf pb) = some (cS u (lay_20 u c X S) c0) := by
  have hm : 2 ≤ mny c := (show ∀ c, c < 29 → kin c → isL c 20 = true → 2 ≤ mny c by unfold kin; decide) c hc hkn hil
  have x1 : ∀ S, cS u S c0 (U u) 5 = X 1 := fun S => (cS_x (i := 1) (by decide)).trans (hX 1 (by omega))
  simp (decide := true) only [F_X10_makeRadio, lay_20, ck_1, if_true, ck_U hu, rf_U0 hu, bse, b1e, b2e, wre, drawC, cS_15, cS_16, cS_s5, cS_s6, mx1C, x1, HP_1, KN_w, KN_1, ne_eq, hp, hk, massS hN hu hc h7 hl, spanS hN hu hc h7 hl, needS hN hu hc h7 hl, testS hN hu hc h7 hl, channelsS hN hu hc h7 hl, pushS hN hu hc h7 hl, jotC hu, rp_4 hu, cSr_4, rp_49 hu, cSr_49, wp_49 hu, cSw_49, HPw_49, wp_50 hu, cSw_50, HPw_50, wp_51 hu, cSw_51, HPw_51]
theorem mkC_21 (hN : 5000 ≤ N) (hu : u ≤ 20) (hc : c < 29) (hkn : kin c) (hil : isL c 21 = true) (h7 : c0 (U u) 7 = nI (chn c).length) (hl : ∀ i, i < (chn c).length → c0 (U u + 2) i = nI ((chn c).getD i 0)) (hX : ∀ i, i < mny c → c0 (U u) (4 + i) = X i) (hp : HP u c S) (hk : KN S) : F_X10_makeBeacon 1 (U u) (cS u S c0) L (GRf pb) = some (cS u (lay_21 u c X S) c0) := by
  have hm : 0 ≤ mny c := (show ∀ c, c < 29 → kin c → isL c 21 = true → 0 ≤ mny c by unfold kin; decide) c hc hkn hil
  simp (decide := true) only [F_X10_makeBeacon, lay_21, ck_1, if_true, ck_U hu, rf_U0 hu, bse, b1e, b2e, wre, drawC, cS_15, cS_16, cS_s5, cS_s6, mx1C, HP_1, KN_w, KN_1, ne_eq, hp, hk, massS hN hu hc h7 hl, spanS hN hu hc h7 hl, needS hN hu hc h7 hl, testS hN hu hc h7 hl, channelsS hN hu hc h7 hl, pushS hN hu hc h7 hl, jotC hu, rp_49 hu, cSr_49, rp_50 hu, cSr_50, wp_31 hu, cSw_31, HPw_31, wp_50 hu, cSw_50, HPw_50]
theorem mkC_22 (hN : 5000 ≤ N) (hu : u ≤ 20) (hc : c < 29) (hkn : kin c) (hil : isL c 22 = true) (h7 : c0 (U u) 7 = nI (chn c).length) (hl : ∀ i, i < (chn c).length → c0 (U u + 2) i = nI ((chn c).getD i 0)) (hX : ∀ i, i < mny c → c0 (U u) (4 + i) = X i) (hp : HP u c S) (hk : KN S) : F_X10_makeSource N 1 (U u) (cS u S c0) L (GRf pb) = some (cS u (lay_22 u c X S) c0) := by
  have hm : 1 ≤ mny c := (show ∀ c, c < 29 → kin c → isL c 22 = true → 1 ≤ mny c by unfold kin; decide) c hc hkn hil
  have x0 : ∀ S, cS u S c0 (U u) 4 = X 0 := fun S => (cS_x (i := 0) (by decide)).trans (hX 0 (by omega))
  simp (decide := true) only [F_X10_makeSource, lay_22, ck_1, if_true, ck_U hu, rf_U0 hu, bse, b1e, b2e, wre, drawC, cS_15, cS_16, cS_s5, cS_s6, mx1C, x0, HP_1, KN_w, KN_1, ne_eq, hp, hk, massS hN hu hc h7 hl, spanS hN hu hc h7 hl, needS hN hu hc h7 hl, testS hN hu hc h7 hl, channelsS hN hu hc h7 hl, pushS hN hu hc h7 hl, jotC hu, wp_43 hu, cSw_43, HPw_43, wp_52 hu, cSw_52, HPw_52]
theorem mkC_23 (hN : 5000 ≤ N) (hu : u ≤ 20) (hc : c < 29) (hkn : kin c) (hil : isL c 23 = true) (h7 : c0 (U u) 7 = nI (chn c).length) (hl : ∀ i, i < (chn c).length → c0 (U u + 2) i = nI ((chn c).getD i 0)) (hX : ∀ i, i < mny c → c0 (U u) (4 + i) = X i) (hp : HP u c S) (hk : KN S) : F_X10_makePanel 1 (U u) (cS u S c0) L (GRf pb) = some (cS u (lay_23 u c X S) c0) := by
  have hm : 2 ≤ mny c := (show ∀ c, c < 29 → kin c → isL c 23 = true → 2 ≤ mny c by unfold kin; decide) c hc hkn hil
  have x1 : ∀ S, cS u S c0 (U u) 5 = X 1 := fun S => (cS_x (i := 1) (by decide)).trans (hX 1 (by omega))
  simp (decide := true) only [F_X10_makePanel, lay_23, ck_1, if_true, ck_U hu, rf_U0 hu, bse, b1e, b2e, wre, drawC, cS_15, cS_16, cS_s5, cS_s6, mx1C, x1, HP_1, KN_w, KN_1, ne_eq, hp, hk, massS hN hu hc h7 hl, spanS hN hu hc h7 hl, needS hN hu hc h7 hl, testS hN hu hc h7 hl, channelsS hN hu hc h7 hl, pushS hN hu hc h7 hl, jotC hu, rp_52 hu, cSr_52, rp_53 hu, cSr_53, rp_54 hu, cSr_54, wp_53 hu, cSw_53, HPw_53, wp_54 hu, cSw_54, HPw_54]
theorem mkC_24 (hN : 5000 ≤ N) (hu : u ≤ 20) (hc : c < 29) (hkn : kin c) (hil : isL c 24 = true) (h7 : c0 (U u) 7 = nI (chn c).length) (hl : ∀ i, i < (chn c).length → c0 (U u + 2) i = nI ((chn c).getD i 0)) (hX : ∀ i, i < mny c → c0 (U u) (4 + i) = X i) (hp : HP u c S) (hk : KN S) : F_X10_makeTracker 1 (U u) (cS u S c0) L (GRf pb) = some (cS u (lay_24 u c X S) c0) := by
  have hm : 0 ≤ mny c := (show ∀ c, c < 29 → kin c → isL c 24 = true → 0 ≤ mny c by unfold kin; decide) c hc hkn hil
  simp (decide := true) only [F_X10_makeTracker, lay_24, ck_1, if_true, ck_U hu, rf_U0 hu, bse, b1e, b2e, wre, drawC, cS_15, cS_16, cS_s5, cS_s6, mx1C, HP_1, KN_w, KN_1, ne_eq, hp, hk, massS hN hu hc h7 hl, spanS hN hu hc h7 hl, needS hN hu hc h7 hl, testS hN hu hc h7 hl, channelsS hN hu hc h7 hl, pushS hN hu hc h7 hl, jotC hu, rp_53 hu, cSr_53, rp_54 hu, cSr_54, rp_56 hu, cSr_56, wp_56 hu, cSw_56, HPw_56]
theorem mkC_25 (hN : 5000 ≤ N) (hu : u ≤ 20) (hc : c < 29) (hkn : kin c) (hil : isL c 25 = true) (h7 : c0 (U u) 7 = nI (chn c).length) (hl : ∀ i, i < (chn c).length → c0 (U u + 2) i = nI ((chn c).getD i 0)) (hX : ∀ i, i < mny c → c0 (U u) (4 + i) = X i) (hp : HP u c S) (hk : KN S) : F_X10_makeGenerator 1 (U u) (cS u S c0) L (GRf pb) = some (cS u (lay_25 u c X S) c0) := by
  have hm : 2 ≤ mny c := (show ∀ c, c < 29 → kin c → isL c 25 = true → 2 ≤ mny c by unfold kin; decide) c hc hkn hil
  have x1 : ∀ S, cS u S c0 (U u) 5 = X 1 := fun S => (cS_x (i := 1) (by decide)).trans (hX 1 (by omega))
  simp (decide := true) only [F_X10_makeGenerator, lay_25, ck_1, if_true, ck_U hu, rf_U0 hu, bse, b1e, b2e, wre, drawC, cS_15, cS_16, cS_s5, cS_s6, mx1C, x1, HP_1, KN_w, KN_1, ne_eq, hp, hk, massS hN hu hc h7 hl, spanS hN hu hc h7 hl, needS hN hu hc h7 hl, testS hN hu hc h7 hl, channelsS hN hu hc h7 hl, pushS hN hu hc h7 hl, jotC hu, rp_3 hu, cSr_3, rp_52 hu, cSr_52, rp_57 hu, cSr_57, wp_27 hu, cSw_27, HPw_27, wp_57 hu, cSw_57, HPw_57]
theorem mkC_26 (hN : 5000 ≤ N) (hu : u ≤ 20) (hc : c < 29) (hkn : kin c) (hil : isL c 26 = true) (h7 : c0 (U u) 7 = nI (chn c).length) (hl : ∀ i, i < (chn c).length → c0 (U u + 2) i = nI ((chn c).getD i 0)) (hX : ∀ i, i < mny c → c0 (U u) (4 + i) = X i) (hp : HP u c S) (hk : KN S) : F_X10_makeLink N 1 (U u) (cS u S c0) L (GRf pb) = some (cS u (lay_26 u c X S) c0) := by
  have hm : 2 ≤ mny c := (show ∀ c, c < 29 → kin c → isL c 26 = true → 2 ≤ mny c by unfold kin; decide) c hc hkn hil
  have x0 : ∀ S, cS u S c0 (U u) 4 = X 0 := fun S => (cS_x (i := 0) (by decide)).trans (hX 0 (by omega))
  have x1 : ∀ S, cS u S c0 (U u) 5 = X 1 := fun S => (cS_x (i := 1) (by decide)).trans (hX 1 (by omega))
  simp (decide := true) only [F_X10_makeLink, lay_26, ck_1, if_true, ck_U hu, rf_U0 hu, bse, b1e, b2e, wre, drawC, cS_15, cS_16, cS_s5, cS_s6, mx1C, x0, x1, HP_1, KN_w, KN_1, ne_eq, hp, hk, massS hN hu hc h7 hl, spanS hN hu hc h7 hl, needS hN hu hc h7 hl, testS hN hu hc h7 hl, channelsS hN hu hc h7 hl, pushS hN hu hc h7 hl, jotC hu, rp_58 hu, cSr_58, wp_58 hu, cSw_58, HPw_58, wp_59 hu, cSw_59, HPw_59, wp_60 hu, cSw_60, HPw_60]
theorem mkC_27 (hN : 5000 ≤ N) (hu : u ≤ 20) (hc : c < 29) (hkn : kin c) (hil : isL c 27 = true) (h7 : c0 (U u) 7 = nI (chn c).length) (hl : ∀ i, i < (chn c).length → c0 (U u + 2) i = nI ((chn c).getD i 0)) (hX : ∀ i, i < mny c → c0 (U u) (4 + i) = X i) (hp : HP u c S) (hk : KN S) : F_X10_makePipe 1 (U u) (cS u S c0) L (GRf pb) = some (cS u (lay_27 u c X S) c0) := by
  have hm : 0 ≤ mny c := (show ∀ c, c < 29 → kin c → isL c 27 = true → 0 ≤ mny c by unfold kin; decide) c hc hkn hil
  simp (decide := true) only [F_X10_makePipe, lay_27, ck_1, if_true, ck_U hu, rf_U0 hu, bse, b1e, b2e, wre, drawC, cS_15, cS_16, cS_s5, cS_s6, mx1C, HP_1, KN_w, KN_1, ne_eq, hp, hk, massS hN hu hc h7 hl, spanS hN hu hc h7 hl, needS hN hu hc h7 hl, testS hN hu hc h7 hl, channelsS hN hu hc h7 hl, pushS hN hu hc h7 hl, jotC hu, rp_58 hu, cSr_58, rp_61 hu, cSr_61, wp_61 hu, cSw_61, HPw_61]
theorem mkC_28 (hN : 5000 ≤ N) (hu : u ≤ 20) (hc : c < 29) (hkn : kin c) (hil : isL c 28 = true) (h7 : c0 (U u) 7 = nI (chn c).length) (hl : ∀ i, i < (chn c).length → c0 (U u + 2) i = nI ((chn c).getD i 0)) (hX : ∀ i, i < mny c → c0 (U u) (4 + i) = X i) (hp : HP u c S) (hk : KN S) : F_X10_makeHose 1 (U u) (cS u S c0) L (GRf pb) = some (cS u (lay_28 u c X S) c0) := by
  have hm : 3 ≤ mny c := (show ∀ c, c < 29 → kin c → isL c 28 = true → 3 ≤ mny c by unfold kin; decide) c hc hkn hil
  have x2 : ∀ S, cS u S c0 (U u) 6 = X 2 := fun S => (cS_x (i := 2) (by decide)).trans (hX 2 (by omega))
  simp (decide := true) only [F_X10_makeHose, lay_28, ck_1, if_true, ck_U hu, rf_U0 hu, bse, b1e, b2e, wre, drawC, cS_15, cS_16, cS_s5, cS_s6, mx1C, x2, HP_1, KN_w, KN_1, ne_eq, hp, hk, massS hN hu hc h7 hl, spanS hN hu hc h7 hl, needS hN hu hc h7 hl, testS hN hu hc h7 hl, channelsS hN hu hc h7 hl, pushS hN hu hc h7 hl, jotC hu, rp_58 hu, cSr_58, rp_59 hu, cSr_59, rp_61 hu, cSr_61, wp_61 hu, cSw_61, HPw_61]
end P9
