/-! T3: what the layers keep: bounds of a unit in the making -/
theorem jot0 {u k : Nat} {l x : Int32} {S : MI} : jotS u l x S 0 k = S 0 k := by
  unfold jotS
  rw [uI_at (by omega)]
  by_cases z : vN (S 1 3) < 100
  · rw [if_pos z, uI_at (by omega), uI_at (by omega), uI_at (by omega)]
  · rw [if_neg z]
theorem jot1 {u j : Nat} {l x : Int32} {S : MI} (h : j ≠ 3) : jotS u l x S 1 j = S 1 j := by
  unfold jotS
  rw [uI_at (by omega)]
  by_cases z : vN (S 1 3) < 100
  · rw [if_pos z, uI_at (by omega), uI_at (by omega), uI_at (by omega)]
  · rw [if_neg z]
theorem jot13 {u : Nat} {l x : Int32} {S : MI} : jotS u l x S 1 3 = S 1 3 + 1 := by
  unfold jotS
  rw [uI_same]
theorem evo_0 {u c k : Nat} {X : Nat → Int32} {S : MI} (h1 : k ≠ 1) (h2 : k ≠ 2) (h3 : k ≠ 3) (h4 : k ≠ 4) (h5 : k ≠ 5) (h6 : k ≠ 6) : lay_0 u c X S 0 k = S 0 k := by
  unfold lay_0
  simp only [wre]
  rw [jot0]
  repeat rw [uI_at (by omega)]
theorem ev_0_1 {u c : Nat} {X : Nat → Int32} {S : MI} : lay_0 u c X S 0 1 = (nI u) := by
  simp (decide := true) only [lay_0, wre, jot0, uI_same, rr0, rr1, rrk, rrj, ne_eq]
theorem ev_0_5 {u c : Nat} {X : Nat → Int32} {S : MI} : lay_0 u c X S 0 5 = (mx1 (ansV 1 c ((uI (uI (uI (uI (uI S 0 1 ((nI u))) 1 0 (((S 1 0) + 1))) 0 2 (((((S 1 0) + 1))))) 0 3 ((ansV 0 c ((uI (uI (uI S 0 1 ((nI u))) 1 0 (((S 1 0) + 1))) 0 2 (((((S 1 0) + 1))))) 0)))) 0 4 (((S 1 1)))) 0))) := by
  simp (decide := true) only [lay_0, wre, jot0, uI_same, rr0, rr1, rrk, rrj, ne_eq]
theorem ev_0_2 {u c : Nat} {X : Nat → Int32} {S : MI} : lay_0 u c X S 0 2 = ((((S 1 0) + 1))) := by
  simp (decide := true) only [lay_0, wre, jot0, uI_same, rr0, rr1, rrk, rrj, ne_eq]
theorem ev_0_4 {u c : Nat} {X : Nat → Int32} {S : MI} : lay_0 u c X S 0 4 = ((S 1 1)) := by
  simp (decide := true) only [lay_0, wre, jot0, uI_same, rr0, rr1, rrk, rrj, ne_eq]
theorem ev1_0_0 {u c : Nat} {X : Nat → Int32} {S : MI} : lay_0 u c X S 1 0 = ((S 1 0) + 1) := by
  simp (decide := true) only [lay_0, wre, jot1, uI_same, rr0, rr1, rrk, rrj, ne_eq]
theorem ev1_0_1 {u c : Nat} {X : Nat → Int32} {S : MI} : lay_0 u c X S 1 1 = (((S 1 1)) + (((mx1 (ansV 1 c ((uI (uI (uI (uI (uI S 0 1 ((nI u))) 1 0 (((S 1 0) + 1))) 0 2 (((((S 1 0) + 1))))) 0 3 ((ansV 0 c ((uI (uI (uI S 0 1 ((nI u))) 1 0 (((S 1 0) + 1))) 0 2 (((((S 1 0) + 1))))) 0)))) 0 4 (((S 1 1)))) 0)))))) := by
  simp (decide := true) only [lay_0, wre, jot1, uI_same, rr0, rr1, rrk, rrj, ne_eq]
theorem ev1_0_3 {u c : Nat} {X : Nat → Int32} {S : MI} : lay_0 u c X S 1 3 = S 1 3 + 1 := by
  simp (decide := true) only [lay_0, wre, jot13, uI_same, rr0, rr1, rrk, rrj, ne_eq]
theorem evo_1 {u c k : Nat} {X : Nat → Int32} {S : MI} (h7 : k ≠ 7) (h8 : k ≠ 8) (h9 : k ≠ 9) (h10 : k ≠ 10) : lay_1 u c X S 0 k = S 0 k := by
  unfold lay_1
  simp only [wre]
  rw [jot0]
  repeat rw [uI_at (by omega)]
theorem ev_1_9 {u c : Nat} {X : Nat → Int32} {S : MI} : lay_1 u c X S 0 9 = (X 0) := by
  simp (decide := true) only [lay_1, wre, jot0, uI_same, rr0, rr1, rrk, rrj, ne_eq]
theorem ev1_1_0 {u c : Nat} {X : Nat → Int32} {S : MI} : lay_1 u c X S 1 0 = ((S 1 0) + 1) := by
  simp (decide := true) only [lay_1, wre, jot1, uI_same, rr0, rr1, rrk, rrj, ne_eq]
theorem ev1_1_1 {u c : Nat} {X : Nat → Int32} {S : MI} : lay_1 u c X S 1 1 = S 1 1 := by
  simp (decide := true) only [lay_1, wre, jot1, uI_same, rr0, rr1, rrk, rrj, ne_eq]
theorem ev1_1_3 {u c : Nat} {X : Nat → Int32} {S : MI} : lay_1 u c X S 1 3 = S 1 3 + 1 := by
  simp (decide := true) only [lay_1, wre, jot13, uI_same, rr0, rr1, rrk, rrj, ne_eq]
theorem evo_2 {u c k : Nat} {X : Nat → Int32} {S : MI} (h10 : k ≠ 10) (h11 : k ≠ 11) (h13 : k ≠ 13) : lay_2 u c X S 0 k = S 0 k := by
  unfold lay_2
  simp only [wre]
  rw [jot0]
  repeat rw [uI_at (by omega)]
theorem ev1_2_0 {u c : Nat} {X : Nat → Int32} {S : MI} : lay_2 u c X S 1 0 = ((S 1 0) + 1) := by
  simp (decide := true) only [lay_2, wre, jot1, uI_same, rr0, rr1, rrk, rrj, ne_eq]
theorem ev1_2_1 {u c : Nat} {X : Nat → Int32} {S : MI} : lay_2 u c X S 1 1 = S 1 1 := by
  simp (decide := true) only [lay_2, wre, jot1, uI_same, rr0, rr1, rrk, rrj, ne_eq]
theorem ev1_2_3 {u c : Nat} {X : Nat → Int32} {S : MI} : lay_2 u c X S 1 3 = S 1 3 + 1 := by
  simp (decide := true) only [lay_2, wre, jot13, uI_same, rr0, rr1, rrk, rrj, ne_eq]
theorem evo_3 {u c k : Nat} {X : Nat → Int32} {S : MI} (h10 : k ≠ 10) (h13 : k ≠ 13) (h14 : k ≠ 14) (h15 : k ≠ 15) (h16 : k ≠ 16) : lay_3 u c X S 0 k = S 0 k := by
  unfold lay_3
  simp only [wre]
  rw [jot0]
  repeat rw [uI_at (by omega)]
theorem ev1_3_0 {u c : Nat} {X : Nat → Int32} {S : MI} : lay_3 u c X S 1 0 = S 1 0 := by
  simp (decide := true) only [lay_3, wre, jot1, uI_same, rr0, rr1, rrk, rrj, ne_eq]
theorem ev1_3_1 {u c : Nat} {X : Nat → Int32} {S : MI} : lay_3 u c X S 1 1 = S 1 1 := by
  simp (decide := true) only [lay_3, wre, jot1, uI_same, rr0, rr1, rrk, rrj, ne_eq]
theorem ev1_3_3 {u c : Nat} {X : Nat → Int32} {S : MI} : lay_3 u c X S 1 3 = S 1 3 + 1 := by
  simp (decide := true) only [lay_3, wre, jot13, uI_same, rr0, rr1, rrk, rrj, ne_eq]
theorem evo_4 {u c k : Nat} {X : Nat → Int32} {S : MI} (h10 : k ≠ 10) (h17 : k ≠ 17) : lay_4 u c X S 0 k = S 0 k := by
  unfold lay_4
  simp only [wre]
  rw [jot0]
  repeat rw [uI_at (by omega)]
theorem ev1_4_0 {u c : Nat} {X : Nat → Int32} {S : MI} : lay_4 u c X S 1 0 = S 1 0 := by
  simp (decide := true) only [lay_4, wre, jot1, uI_same, rr0, rr1, rrk, rrj, ne_eq]
theorem ev1_4_1 {u c : Nat} {X : Nat → Int32} {S : MI} : lay_4 u c X S 1 1 = S 1 1 := by
  simp (decide := true) only [lay_4, wre, jot1, uI_same, rr0, rr1, rrk, rrj, ne_eq]
theorem ev1_4_3 {u c : Nat} {X : Nat → Int32} {S : MI} : lay_4 u c X S 1 3 = S 1 3 + 1 := by
  simp (decide := true) only [lay_4, wre, jot13, uI_same, rr0, rr1, rrk, rrj, ne_eq]
theorem evo_5 {u c k : Nat} {X : Nat → Int32} {S : MI} (h10 : k ≠ 10) (h18 : k ≠ 18) (h19 : k ≠ 19) (h20 : k ≠ 20) : lay_5 u c X S 0 k = S 0 k := by
  unfold lay_5
  simp only [wre]
  rw [jot0]
  repeat rw [uI_at (by omega)]
theorem ev1_5_0 {u c : Nat} {X : Nat → Int32} {S : MI} : lay_5 u c X S 1 0 = S 1 0 := by
  simp (decide := true) only [lay_5, wre, jot1, uI_same, rr0, rr1, rrk, rrj, ne_eq]
theorem ev1_5_1 {u c : Nat} {X : Nat → Int32} {S : MI} : lay_5 u c X S 1 1 = S 1 1 := by
  simp (decide := true) only [lay_5, wre, jot1, uI_same, rr0, rr1, rrk, rrj, ne_eq]
theorem ev1_5_3 {u c : Nat} {X : Nat → Int32} {S : MI} : lay_5 u c X S 1 3 = S 1 3 + 1 := by
  simp (decide := true) only [lay_5, wre, jot13, uI_same, rr0, rr1, rrk, rrj, ne_eq]
theorem evo_6 {u c k : Nat} {X : Nat → Int32} {S : MI} (h21 : k ≠ 21) (h22 : k ≠ 22) (h23 : k ≠ 23) (h24 : k ≠ 24) : lay_6 u c X S 0 k = S 0 k := by
  unfold lay_6
  simp only [wre]
  rw [jot0]
  repeat rw [uI_at (by omega)]
theorem ev_6_23 {u c : Nat} {X : Nat → Int32} {S : MI} : lay_6 u c X S 0 23 = (X 0) := by
  simp (decide := true) only [lay_6, wre, jot0, uI_same, rr0, rr1, rrk, rrj, ne_eq]
theorem ev1_6_0 {u c : Nat} {X : Nat → Int32} {S : MI} : lay_6 u c X S 1 0 = ((S 1 0) + 1) := by
  simp (decide := true) only [lay_6, wre, jot1, uI_same, rr0, rr1, rrk, rrj, ne_eq]
theorem ev1_6_1 {u c : Nat} {X : Nat → Int32} {S : MI} : lay_6 u c X S 1 1 = S 1 1 := by
  simp (decide := true) only [lay_6, wre, jot1, uI_same, rr0, rr1, rrk, rrj, ne_eq]
theorem ev1_6_3 {u c : Nat} {X : Nat → Int32} {S : MI} : lay_6 u c X S 1 3 = S 1 3 + 1 := by
  simp (decide := true) only [lay_6, wre, jot13, uI_same, rr0, rr1, rrk, rrj, ne_eq]
theorem evo_7 {u c k : Nat} {X : Nat → Int32} {S : MI} (h25 : k ≠ 25) : lay_7 u c X S 0 k = S 0 k := by
  unfold lay_7
  simp only [wre]
  rw [jot0]
  repeat rw [uI_at (by omega)]
theorem ev1_7_0 {u c : Nat} {X : Nat → Int32} {S : MI} : lay_7 u c X S 1 0 = S 1 0 := by
  simp (decide := true) only [lay_7, wre, jot1, uI_same, rr0, rr1, rrk, rrj, ne_eq]
theorem ev1_7_1 {u c : Nat} {X : Nat → Int32} {S : MI} : lay_7 u c X S 1 1 = S 1 1 := by
  simp (decide := true) only [lay_7, wre, jot1, uI_same, rr0, rr1, rrk, rrj, ne_eq]
theorem ev1_7_3 {u c : Nat} {X : Nat → Int32} {S : MI} : lay_7 u c X S 1 3 = S 1 3 + 1 := by
  simp (decide := true) only [lay_7, wre, jot13, uI_same, rr0, rr1, rrk, rrj, ne_eq]
theorem evo_8 {u c k : Nat} {X : Nat → Int32} {S : MI} (h26 : k ≠ 26) (h27 : k ≠ 27) (h28 : k ≠ 28) : lay_8 u c X S 0 k = S 0 k := by
  unfold lay_8
  simp only [wre]
  rw [jot0]
  repeat rw [uI_at (by omega)]
theorem ev_8_27 {u c : Nat} {X : Nat → Int32} {S : MI} : lay_8 u c X S 0 27 = (X 1) := by
  simp (decide := true) only [lay_8, wre, jot0, uI_same, rr0, rr1, rrk, rrj, ne_eq]
theorem ev1_8_0 {u c : Nat} {X : Nat → Int32} {S : MI} : lay_8 u c X S 1 0 = S 1 0 := by
  simp (decide := true) only [lay_8, wre, jot1, uI_same, rr0, rr1, rrk, rrj, ne_eq]
theorem ev1_8_1 {u c : Nat} {X : Nat → Int32} {S : MI} : lay_8 u c X S 1 1 = S 1 1 := by
  simp (decide := true) only [lay_8, wre, jot1, uI_same, rr0, rr1, rrk, rrj, ne_eq]
theorem ev1_8_3 {u c : Nat} {X : Nat → Int32} {S : MI} : lay_8 u c X S 1 3 = S 1 3 + 1 := by
  simp (decide := true) only [lay_8, wre, jot13, uI_same, rr0, rr1, rrk, rrj, ne_eq]
theorem evo_9 {u c k : Nat} {X : Nat → Int32} {S : MI} (h29 : k ≠ 29) (h30 : k ≠ 30) (h31 : k ≠ 31) (h32 : k ≠ 32) : lay_9 u c X S 0 k = S 0 k := by
  unfold lay_9
  simp only [wre]
  rw [jot0]
  repeat rw [uI_at (by omega)]
theorem ev_9_30 {u c : Nat} {X : Nat → Int32} {S : MI} : lay_9 u c X S 0 30 = (ansV 4 c ((uI (uI S 1 0 (((S 1 0) + 1))) 0 29 ((iR ((((S 1 0) + 1))) (7 : Int32)))) 0)) := by
  simp (decide := true) only [lay_9, wre, jot0, uI_same, rr0, rr1, rrk, rrj, ne_eq]
theorem ev_9_31 {u c : Nat} {X : Nat → Int32} {S : MI} : lay_9 u c X S 0 31 = (X 1) := by
  simp (decide := true) only [lay_9, wre, jot0, uI_same, rr0, rr1, rrk, rrj, ne_eq]
theorem ev1_9_0 {u c : Nat} {X : Nat → Int32} {S : MI} : lay_9 u c X S 1 0 = ((S 1 0) + 1) := by
  simp (decide := true) only [lay_9, wre, jot1, uI_same, rr0, rr1, rrk, rrj, ne_eq]
theorem ev1_9_1 {u c : Nat} {X : Nat → Int32} {S : MI} : lay_9 u c X S 1 1 = S 1 1 := by
  simp (decide := true) only [lay_9, wre, jot1, uI_same, rr0, rr1, rrk, rrj, ne_eq]
theorem ev1_9_3 {u c : Nat} {X : Nat → Int32} {S : MI} : lay_9 u c X S 1 3 = S 1 3 + 1 := by
  simp (decide := true) only [lay_9, wre, jot13, uI_same, rr0, rr1, rrk, rrj, ne_eq]
theorem evo_10 {u c k : Nat} {X : Nat → Int32} {S : MI} (h30 : k ≠ 30) (h33 : k ≠ 33) (h34 : k ≠ 34) (h35 : k ≠ 35) : lay_10 u c X S 0 k = S 0 k := by
  unfold lay_10
  simp only [wre]
  rw [jot0]
  repeat rw [uI_at (by omega)]
theorem ev_10_35 {u c : Nat} {X : Nat → Int32} {S : MI} : lay_10 u c X S 0 35 = (X 2) := by
  simp (decide := true) only [lay_10, wre, jot0, uI_same, rr0, rr1, rrk, rrj, ne_eq]
theorem ev_10_30 {u c : Nat} {X : Nat → Int32} {S : MI} : lay_10 u c X S 0 30 = (ansV 4 c ((uI (uI (uI S 0 33 ((((S 0 29)) - (3 : Int32)))) 0 34 ((1 : Int32))) 0 35 ((X 2))) 0)) := by
  simp (decide := true) only [lay_10, wre, jot0, uI_same, rr0, rr1, rrk, rrj, ne_eq]
theorem ev1_10_0 {u c : Nat} {X : Nat → Int32} {S : MI} : lay_10 u c X S 1 0 = S 1 0 := by
  simp (decide := true) only [lay_10, wre, jot1, uI_same, rr0, rr1, rrk, rrj, ne_eq]
theorem ev1_10_1 {u c : Nat} {X : Nat → Int32} {S : MI} : lay_10 u c X S 1 1 = S 1 1 := by
  simp (decide := true) only [lay_10, wre, jot1, uI_same, rr0, rr1, rrk, rrj, ne_eq]
theorem ev1_10_3 {u c : Nat} {X : Nat → Int32} {S : MI} : lay_10 u c X S 1 3 = S 1 3 + 1 := by
  simp (decide := true) only [lay_10, wre, jot13, uI_same, rr0, rr1, rrk, rrj, ne_eq]
theorem evo_11 {u c k : Nat} {X : Nat → Int32} {S : MI} (h30 : k ≠ 30) (h33 : k ≠ 33) (h34 : k ≠ 34) (h36 : k ≠ 36) : lay_11 u c X S 0 k = S 0 k := by
  unfold lay_11
  simp only [wre]
  rw [jot0]
  repeat rw [uI_at (by omega)]
theorem ev_11_30 {u c : Nat} {X : Nat → Int32} {S : MI} : lay_11 u c X S 0 30 = (ansV 4 c ((uI (uI (uI (uI S 0 33 ((((S 0 33)) / (2 : Int32)))) 1 0 (((S 1 0) + 1))) 0 36 (((iR ((((S 1 0) + 1))) (4 : Int32)) + (1 : Int32)))) 0 34 ((3 : Int32))) 0)) := by
  simp (decide := true) only [lay_11, wre, jot0, uI_same, rr0, rr1, rrk, rrj, ne_eq]
theorem ev1_11_0 {u c : Nat} {X : Nat → Int32} {S : MI} : lay_11 u c X S 1 0 = ((S 1 0) + 1) := by
  simp (decide := true) only [lay_11, wre, jot1, uI_same, rr0, rr1, rrk, rrj, ne_eq]
theorem ev1_11_1 {u c : Nat} {X : Nat → Int32} {S : MI} : lay_11 u c X S 1 1 = S 1 1 := by
  simp (decide := true) only [lay_11, wre, jot1, uI_same, rr0, rr1, rrk, rrj, ne_eq]
theorem ev1_11_3 {u c : Nat} {X : Nat → Int32} {S : MI} : lay_11 u c X S 1 3 = S 1 3 + 1 := by
  simp (decide := true) only [lay_11, wre, jot13, uI_same, rr0, rr1, rrk, rrj, ne_eq]
theorem evo_12 {u c k : Nat} {X : Nat → Int32} {S : MI} (h37 : k ≠ 37) : lay_12 u c X S 0 k = S 0 k := by
  unfold lay_12
  simp only [wre]
  rw [jot0]
  repeat rw [uI_at (by omega)]
theorem ev1_12_0 {u c : Nat} {X : Nat → Int32} {S : MI} : lay_12 u c X S 1 0 = S 1 0 := by
  simp (decide := true) only [lay_12, wre, jot1, uI_same, rr0, rr1, rrk, rrj, ne_eq]
theorem ev1_12_1 {u c : Nat} {X : Nat → Int32} {S : MI} : lay_12 u c X S 1 1 = S 1 1 := by
  simp (decide := true) only [lay_12, wre, jot1, uI_same, rr0, rr1, rrk, rrj, ne_eq]
theorem ev1_12_3 {u c : Nat} {X : Nat → Int32} {S : MI} : lay_12 u c X S 1 3 = S 1 3 + 1 := by
  simp (decide := true) only [lay_12, wre, jot13, uI_same, rr0, rr1, rrk, rrj, ne_eq]
theorem evo_13 {u c k : Nat} {X : Nat → Int32} {S : MI} (h27 : k ≠ 27) (h38 : k ≠ 38) : lay_13 u c X S 0 k = S 0 k := by
  unfold lay_13
  simp only [wre]
  rw [jot0]
  repeat rw [uI_at (by omega)]
theorem ev_13_27 {u c : Nat} {X : Nat → Int32} {S : MI} : lay_13 u c X S 0 27 = (X 2) := by
  simp (decide := true) only [lay_13, wre, jot0, uI_same, rr0, rr1, rrk, rrj, ne_eq]
theorem ev1_13_0 {u c : Nat} {X : Nat → Int32} {S : MI} : lay_13 u c X S 1 0 = S 1 0 := by
  simp (decide := true) only [lay_13, wre, jot1, uI_same, rr0, rr1, rrk, rrj, ne_eq]
theorem ev1_13_1 {u c : Nat} {X : Nat → Int32} {S : MI} : lay_13 u c X S 1 1 = S 1 1 := by
  simp (decide := true) only [lay_13, wre, jot1, uI_same, rr0, rr1, rrk, rrj, ne_eq]
theorem ev1_13_3 {u c : Nat} {X : Nat → Int32} {S : MI} : lay_13 u c X S 1 3 = S 1 3 + 1 := by
  simp (decide := true) only [lay_13, wre, jot13, uI_same, rr0, rr1, rrk, rrj, ne_eq]
theorem evo_14 {u c k : Nat} {X : Nat → Int32} {S : MI} (h27 : k ≠ 27) (h39 : k ≠ 39) (h40 : k ≠ 40) : lay_14 u c X S 0 k = S 0 k := by
  unfold lay_14
  simp only [wre]
  rw [jot0]
  repeat rw [uI_at (by omega)]
theorem ev_14_39 {u c : Nat} {X : Nat → Int32} {S : MI} : lay_14 u c X S 0 39 = (((S 0 30)) + (iR ((((S 1 0) + 1))) (3 : Int32))) := by
  simp (decide := true) only [lay_14, wre, jot0, uI_same, rr0, rr1, rrk, rrj, ne_eq]
theorem ev_14_27 {u c : Nat} {X : Nat → Int32} {S : MI} : lay_14 u c X S 0 27 = (X 2) := by
  simp (decide := true) only [lay_14, wre, jot0, uI_same, rr0, rr1, rrk, rrj, ne_eq]
theorem ev1_14_0 {u c : Nat} {X : Nat → Int32} {S : MI} : lay_14 u c X S 1 0 = ((S 1 0) + 1) := by
  simp (decide := true) only [lay_14, wre, jot1, uI_same, rr0, rr1, rrk, rrj, ne_eq]
theorem ev1_14_1 {u c : Nat} {X : Nat → Int32} {S : MI} : lay_14 u c X S 1 1 = S 1 1 := by
  simp (decide := true) only [lay_14, wre, jot1, uI_same, rr0, rr1, rrk, rrj, ne_eq]
theorem ev1_14_3 {u c : Nat} {X : Nat → Int32} {S : MI} : lay_14 u c X S 1 3 = S 1 3 + 1 := by
  simp (decide := true) only [lay_14, wre, jot13, uI_same, rr0, rr1, rrk, rrj, ne_eq]
theorem evo_15 {u c k : Nat} {X : Nat → Int32} {S : MI} (h35 : k ≠ 35) (h41 : k ≠ 41) (h42 : k ≠ 42) : lay_15 u c X S 0 k = S 0 k := by
  unfold lay_15
  simp only [wre]
  rw [jot0]
  repeat rw [uI_at (by omega)]
theorem ev_15_35 {u c : Nat} {X : Nat → Int32} {S : MI} : lay_15 u c X S 0 35 = (X 1) := by
  simp (decide := true) only [lay_15, wre, jot0, uI_same, rr0, rr1, rrk, rrj, ne_eq]
theorem ev1_15_0 {u c : Nat} {X : Nat → Int32} {S : MI} : lay_15 u c X S 1 0 = S 1 0 := by
  simp (decide := true) only [lay_15, wre, jot1, uI_same, rr0, rr1, rrk, rrj, ne_eq]
theorem ev1_15_1 {u c : Nat} {X : Nat → Int32} {S : MI} : lay_15 u c X S 1 1 = S 1 1 := by
  simp (decide := true) only [lay_15, wre, jot1, uI_same, rr0, rr1, rrk, rrj, ne_eq]
theorem ev1_15_3 {u c : Nat} {X : Nat → Int32} {S : MI} : lay_15 u c X S 1 3 = S 1 3 + 1 := by
  simp (decide := true) only [lay_15, wre, jot13, uI_same, rr0, rr1, rrk, rrj, ne_eq]
theorem evo_16 {u c k : Nat} {X : Nat → Int32} {S : MI} (h43 : k ≠ 43) (h44 : k ≠ 44) : lay_16 u c X S 0 k = S 0 k := by
  unfold lay_16
  simp only [wre]
  rw [jot0]
  repeat rw [uI_at (by omega)]
theorem ev_16_43 {u c : Nat} {X : Nat → Int32} {S : MI} : lay_16 u c X S 0 43 = ((200 : Int32) + ((S 0 2))) := by
  simp (decide := true) only [lay_16, wre, jot0, uI_same, rr0, rr1, rrk, rrj, ne_eq]
theorem ev1_16_0 {u c : Nat} {X : Nat → Int32} {S : MI} : lay_16 u c X S 1 0 = S 1 0 := by
  simp (decide := true) only [lay_16, wre, jot1, uI_same, rr0, rr1, rrk, rrj, ne_eq]
theorem ev1_16_1 {u c : Nat} {X : Nat → Int32} {S : MI} : lay_16 u c X S 1 1 = S 1 1 := by
  simp (decide := true) only [lay_16, wre, jot1, uI_same, rr0, rr1, rrk, rrj, ne_eq]
theorem ev1_16_3 {u c : Nat} {X : Nat → Int32} {S : MI} : lay_16 u c X S 1 3 = S 1 3 + 1 := by
  simp (decide := true) only [lay_16, wre, jot13, uI_same, rr0, rr1, rrk, rrj, ne_eq]
theorem evo_17 {u c k : Nat} {X : Nat → Int32} {S : MI} (h42 : k ≠ 42) (h45 : k ≠ 45) : lay_17 u c X S 0 k = S 0 k := by
  unfold lay_17
  simp only [wre]
  rw [jot0]
  repeat rw [uI_at (by omega)]
theorem ev1_17_0 {u c : Nat} {X : Nat → Int32} {S : MI} : lay_17 u c X S 1 0 = S 1 0 := by
  simp (decide := true) only [lay_17, wre, jot1, uI_same, rr0, rr1, rrk, rrj, ne_eq]
theorem ev1_17_1 {u c : Nat} {X : Nat → Int32} {S : MI} : lay_17 u c X S 1 1 = S 1 1 := by
  simp (decide := true) only [lay_17, wre, jot1, uI_same, rr0, rr1, rrk, rrj, ne_eq]
theorem ev1_17_3 {u c : Nat} {X : Nat → Int32} {S : MI} : lay_17 u c X S 1 3 = S 1 3 + 1 := by
  simp (decide := true) only [lay_17, wre, jot13, uI_same, rr0, rr1, rrk, rrj, ne_eq]
theorem evo_18 {u c k : Nat} {X : Nat → Int32} {S : MI} (h27 : k ≠ 27) (h40 : k ≠ 40) (h47 : k ≠ 47) : lay_18 u c X S 0 k = S 0 k := by
  unfold lay_18
  simp only [wre]
  rw [jot0]
  repeat rw [uI_at (by omega)]
theorem ev_18_47 {u c : Nat} {X : Nat → Int32} {S : MI} : lay_18 u c X S 0 47 = ((iR ((((S 1 0) + 1))) (3 : Int32)) + (1 : Int32)) := by
  simp (decide := true) only [lay_18, wre, jot0, uI_same, rr0, rr1, rrk, rrj, ne_eq]
theorem ev_18_27 {u c : Nat} {X : Nat → Int32} {S : MI} : lay_18 u c X S 0 27 = (X 2) := by
  simp (decide := true) only [lay_18, wre, jot0, uI_same, rr0, rr1, rrk, rrj, ne_eq]
theorem ev1_18_0 {u c : Nat} {X : Nat → Int32} {S : MI} : lay_18 u c X S 1 0 = ((S 1 0) + 1) := by
  simp (decide := true) only [lay_18, wre, jot1, uI_same, rr0, rr1, rrk, rrj, ne_eq]
theorem ev1_18_1 {u c : Nat} {X : Nat → Int32} {S : MI} : lay_18 u c X S 1 1 = S 1 1 := by
  simp (decide := true) only [lay_18, wre, jot1, uI_same, rr0, rr1, rrk, rrj, ne_eq]
theorem ev1_18_3 {u c : Nat} {X : Nat → Int32} {S : MI} : lay_18 u c X S 1 3 = S 1 3 + 1 := by
  simp (decide := true) only [lay_18, wre, jot13, uI_same, rr0, rr1, rrk, rrj, ne_eq]
theorem evo_19 {u c k : Nat} {X : Nat → Int32} {S : MI} (h42 : k ≠ 42) (h48 : k ≠ 48) : lay_19 u c X S 0 k = S 0 k := by
  unfold lay_19
  simp only [wre]
  rw [jot0]
  repeat rw [uI_at (by omega)]
theorem ev_19_48 {u c : Nat} {X : Nat → Int32} {S : MI} : lay_19 u c X S 0 48 = (((S 0 47)) + (1 : Int32)) := by
  simp (decide := true) only [lay_19, wre, jot0, uI_same, rr0, rr1, rrk, rrj, ne_eq]
theorem ev1_19_0 {u c : Nat} {X : Nat → Int32} {S : MI} : lay_19 u c X S 1 0 = S 1 0 := by
  simp (decide := true) only [lay_19, wre, jot1, uI_same, rr0, rr1, rrk, rrj, ne_eq]
theorem ev1_19_1 {u c : Nat} {X : Nat → Int32} {S : MI} : lay_19 u c X S 1 1 = S 1 1 := by
  simp (decide := true) only [lay_19, wre, jot1, uI_same, rr0, rr1, rrk, rrj, ne_eq]
theorem ev1_19_3 {u c : Nat} {X : Nat → Int32} {S : MI} : lay_19 u c X S 1 3 = S 1 3 + 1 := by
  simp (decide := true) only [lay_19, wre, jot13, uI_same, rr0, rr1, rrk, rrj, ne_eq]
theorem evo_20 {u c k : Nat} {X : Nat → Int32} {S : MI} (h49 : k ≠ 49) (h50 : k ≠ 50) (h51 : k ≠ 51) : lay_20 u c X S 0 k = S 0 k := by
  unfold lay_20
  simp only [wre]
  rw [jot0]
  repeat rw [uI_at (by omega)]
theorem ev_20_49 {u c : Nat} {X : Nat → Int32} {S : MI} : lay_20 u c X S 0 49 = ((((S 0 4)) * (2 : Int32)) + (1 : Int32)) := by
  simp (decide := true) only [lay_20, wre, jot0, uI_same, rr0, rr1, rrk, rrj, ne_eq]
theorem ev_20_50 {u c : Nat} {X : Nat → Int32} {S : MI} : lay_20 u c X S 0 50 = (X 1) := by
  simp (decide := true) only [lay_20, wre, jot0, uI_same, rr0, rr1, rrk, rrj, ne_eq]
theorem ev1_20_0 {u c : Nat} {X : Nat → Int32} {S : MI} : lay_20 u c X S 1 0 = S 1 0 := by
  simp (decide := true) only [lay_20, wre, jot1, uI_same, rr0, rr1, rrk, rrj, ne_eq]
theorem ev1_20_1 {u c : Nat} {X : Nat → Int32} {S : MI} : lay_20 u c X S 1 1 = S 1 1 := by
  simp (decide := true) only [lay_20, wre, jot1, uI_same, rr0, rr1, rrk, rrj, ne_eq]
theorem ev1_20_3 {u c : Nat} {X : Nat → Int32} {S : MI} : lay_20 u c X S 1 3 = S 1 3 + 1 := by
  simp (decide := true) only [lay_20, wre, jot13, uI_same, rr0, rr1, rrk, rrj, ne_eq]
theorem evo_21 {u c k : Nat} {X : Nat → Int32} {S : MI} (h31 : k ≠ 31) (h50 : k ≠ 50) : lay_21 u c X S 0 k = S 0 k := by
  unfold lay_21
  simp only [wre]
  rw [jot0]
  repeat rw [uI_at (by omega)]
theorem ev_21_50 {u c : Nat} {X : Nat → Int32} {S : MI} : lay_21 u c X S 0 50 = ((((S 0 50)) / (2 : Int32)) + (1 : Int32)) := by
  simp (decide := true) only [lay_21, wre, jot0, uI_same, rr0, rr1, rrk, rrj, ne_eq]
theorem ev_21_31 {u c : Nat} {X : Nat → Int32} {S : MI} : lay_21 u c X S 0 31 = ((10 : Int32) + (iR ((S 0 49)) (7 : Int32))) := by
  simp (decide := true) only [lay_21, wre, jot0, uI_same, rr0, rr1, rrk, rrj, ne_eq]
theorem ev1_21_0 {u c : Nat} {X : Nat → Int32} {S : MI} : lay_21 u c X S 1 0 = S 1 0 := by
  simp (decide := true) only [lay_21, wre, jot1, uI_same, rr0, rr1, rrk, rrj, ne_eq]
theorem ev1_21_1 {u c : Nat} {X : Nat → Int32} {S : MI} : lay_21 u c X S 1 1 = S 1 1 := by
  simp (decide := true) only [lay_21, wre, jot1, uI_same, rr0, rr1, rrk, rrj, ne_eq]
theorem ev1_21_3 {u c : Nat} {X : Nat → Int32} {S : MI} : lay_21 u c X S 1 3 = S 1 3 + 1 := by
  simp (decide := true) only [lay_21, wre, jot13, uI_same, rr0, rr1, rrk, rrj, ne_eq]
theorem evo_22 {u c k : Nat} {X : Nat → Int32} {S : MI} (h43 : k ≠ 43) (h52 : k ≠ 52) : lay_22 u c X S 0 k = S 0 k := by
  unfold lay_22
  simp only [wre]
  rw [jot0]
  repeat rw [uI_at (by omega)]
theorem ev_22_52 {u c : Nat} {X : Nat → Int32} {S : MI} : lay_22 u c X S 0 52 = (iR ((((S 1 0) + 1))) (3 : Int32)) := by
  simp (decide := true) only [lay_22, wre, jot0, uI_same, rr0, rr1, rrk, rrj, ne_eq]
theorem ev_22_43 {u c : Nat} {X : Nat → Int32} {S : MI} : lay_22 u c X S 0 43 = (X 0) := by
  simp (decide := true) only [lay_22, wre, jot0, uI_same, rr0, rr1, rrk, rrj, ne_eq]
theorem ev1_22_0 {u c : Nat} {X : Nat → Int32} {S : MI} : lay_22 u c X S 1 0 = ((S 1 0) + 1) := by
  simp (decide := true) only [lay_22, wre, jot1, uI_same, rr0, rr1, rrk, rrj, ne_eq]
theorem ev1_22_1 {u c : Nat} {X : Nat → Int32} {S : MI} : lay_22 u c X S 1 1 = S 1 1 := by
  simp (decide := true) only [lay_22, wre, jot1, uI_same, rr0, rr1, rrk, rrj, ne_eq]
theorem ev1_22_3 {u c : Nat} {X : Nat → Int32} {S : MI} : lay_22 u c X S 1 3 = S 1 3 + 1 := by
  simp (decide := true) only [lay_22, wre, jot13, uI_same, rr0, rr1, rrk, rrj, ne_eq]
theorem evo_23 {u c k : Nat} {X : Nat → Int32} {S : MI} (h53 : k ≠ 53) (h54 : k ≠ 54) : lay_23 u c X S 0 k = S 0 k := by
  unfold lay_23
  simp only [wre]
  rw [jot0]
  repeat rw [uI_at (by omega)]
theorem ev_23_53 {u c : Nat} {X : Nat → Int32} {S : MI} : lay_23 u c X S 0 53 = (((S 0 52)) * (10 : Int32)) := by
  simp (decide := true) only [lay_23, wre, jot0, uI_same, rr0, rr1, rrk, rrj, ne_eq]
theorem ev_23_54 {u c : Nat} {X : Nat → Int32} {S : MI} : lay_23 u c X S 0 54 = (X 1) := by
  simp (decide := true) only [lay_23, wre, jot0, uI_same, rr0, rr1, rrk, rrj, ne_eq]
theorem ev1_23_0 {u c : Nat} {X : Nat → Int32} {S : MI} : lay_23 u c X S 1 0 = S 1 0 := by
  simp (decide := true) only [lay_23, wre, jot1, uI_same, rr0, rr1, rrk, rrj, ne_eq]
theorem ev1_23_1 {u c : Nat} {X : Nat → Int32} {S : MI} : lay_23 u c X S 1 1 = S 1 1 := by
  simp (decide := true) only [lay_23, wre, jot1, uI_same, rr0, rr1, rrk, rrj, ne_eq]
theorem ev1_23_3 {u c : Nat} {X : Nat → Int32} {S : MI} : lay_23 u c X S 1 3 = S 1 3 + 1 := by
  simp (decide := true) only [lay_23, wre, jot13, uI_same, rr0, rr1, rrk, rrj, ne_eq]
theorem evo_24 {u c k : Nat} {X : Nat → Int32} {S : MI} (h56 : k ≠ 56) : lay_24 u c X S 0 k = S 0 k := by
  unfold lay_24
  simp only [wre]
  rw [jot0]
  repeat rw [uI_at (by omega)]
theorem ev1_24_0 {u c : Nat} {X : Nat → Int32} {S : MI} : lay_24 u c X S 1 0 = S 1 0 := by
  simp (decide := true) only [lay_24, wre, jot1, uI_same, rr0, rr1, rrk, rrj, ne_eq]
theorem ev1_24_1 {u c : Nat} {X : Nat → Int32} {S : MI} : lay_24 u c X S 1 1 = S 1 1 := by
  simp (decide := true) only [lay_24, wre, jot1, uI_same, rr0, rr1, rrk, rrj, ne_eq]
theorem ev1_24_3 {u c : Nat} {X : Nat → Int32} {S : MI} : lay_24 u c X S 1 3 = S 1 3 + 1 := by
  simp (decide := true) only [lay_24, wre, jot13, uI_same, rr0, rr1, rrk, rrj, ne_eq]
theorem evo_25 {u c k : Nat} {X : Nat → Int32} {S : MI} (h27 : k ≠ 27) (h57 : k ≠ 57) : lay_25 u c X S 0 k = S 0 k := by
  unfold lay_25
  simp only [wre]
  rw [jot0]
  repeat rw [uI_at (by omega)]
theorem ev_25_27 {u c : Nat} {X : Nat → Int32} {S : MI} : lay_25 u c X S 0 27 = (X 1) := by
  simp (decide := true) only [lay_25, wre, jot0, uI_same, rr0, rr1, rrk, rrj, ne_eq]
theorem ev1_25_0 {u c : Nat} {X : Nat → Int32} {S : MI} : lay_25 u c X S 1 0 = S 1 0 := by
  simp (decide := true) only [lay_25, wre, jot1, uI_same, rr0, rr1, rrk, rrj, ne_eq]
theorem ev1_25_1 {u c : Nat} {X : Nat → Int32} {S : MI} : lay_25 u c X S 1 1 = S 1 1 := by
  simp (decide := true) only [lay_25, wre, jot1, uI_same, rr0, rr1, rrk, rrj, ne_eq]
theorem ev1_25_3 {u c : Nat} {X : Nat → Int32} {S : MI} : lay_25 u c X S 1 3 = S 1 3 + 1 := by
  simp (decide := true) only [lay_25, wre, jot13, uI_same, rr0, rr1, rrk, rrj, ne_eq]
theorem evo_26 {u c k : Nat} {X : Nat → Int32} {S : MI} (h58 : k ≠ 58) (h59 : k ≠ 59) (h60 : k ≠ 60) : lay_26 u c X S 0 k = S 0 k := by
  unfold lay_26
  simp only [wre]
  rw [jot0]
  repeat rw [uI_at (by omega)]
theorem ev_26_59 {u c : Nat} {X : Nat → Int32} {S : MI} : lay_26 u c X S 0 59 = (X 0) := by
  simp (decide := true) only [lay_26, wre, jot0, uI_same, rr0, rr1, rrk, rrj, ne_eq]
theorem ev_26_58 {u c : Nat} {X : Nat → Int32} {S : MI} : lay_26 u c X S 0 58 = ((ansV 1 c (S 0)) + (iR ((((S 1 0) + 1))) (2 : Int32))) := by
  simp (decide := true) only [lay_26, wre, jot0, uI_same, rr0, rr1, rrk, rrj, ne_eq]
theorem ev_26_60 {u c : Nat} {X : Nat → Int32} {S : MI} : lay_26 u c X S 0 60 = (X 1) := by
  simp (decide := true) only [lay_26, wre, jot0, uI_same, rr0, rr1, rrk, rrj, ne_eq]
theorem ev1_26_0 {u c : Nat} {X : Nat → Int32} {S : MI} : lay_26 u c X S 1 0 = ((S 1 0) + 1) := by
  simp (decide := true) only [lay_26, wre, jot1, uI_same, rr0, rr1, rrk, rrj, ne_eq]
theorem ev1_26_1 {u c : Nat} {X : Nat → Int32} {S : MI} : lay_26 u c X S 1 1 = S 1 1 := by
  simp (decide := true) only [lay_26, wre, jot1, uI_same, rr0, rr1, rrk, rrj, ne_eq]
theorem ev1_26_3 {u c : Nat} {X : Nat → Int32} {S : MI} : lay_26 u c X S 1 3 = S 1 3 + 1 := by
  simp (decide := true) only [lay_26, wre, jot13, uI_same, rr0, rr1, rrk, rrj, ne_eq]
theorem evo_27 {u c k : Nat} {X : Nat → Int32} {S : MI} (h61 : k ≠ 61) : lay_27 u c X S 0 k = S 0 k := by
  unfold lay_27
  simp only [wre]
  rw [jot0]
  repeat rw [uI_at (by omega)]
theorem ev_27_61 {u c : Nat} {X : Nat → Int32} {S : MI} : lay_27 u c X S 0 61 = (((S 0 58)) + (2 : Int32)) := by
  simp (decide := true) only [lay_27, wre, jot0, uI_same, rr0, rr1, rrk, rrj, ne_eq]
theorem ev1_27_0 {u c : Nat} {X : Nat → Int32} {S : MI} : lay_27 u c X S 1 0 = S 1 0 := by
  simp (decide := true) only [lay_27, wre, jot1, uI_same, rr0, rr1, rrk, rrj, ne_eq]
theorem ev1_27_1 {u c : Nat} {X : Nat → Int32} {S : MI} : lay_27 u c X S 1 1 = S 1 1 := by
  simp (decide := true) only [lay_27, wre, jot1, uI_same, rr0, rr1, rrk, rrj, ne_eq]
theorem ev1_27_3 {u c : Nat} {X : Nat → Int32} {S : MI} : lay_27 u c X S 1 3 = S 1 3 + 1 := by
  simp (decide := true) only [lay_27, wre, jot13, uI_same, rr0, rr1, rrk, rrj, ne_eq]
theorem evo_28 {u c k : Nat} {X : Nat → Int32} {S : MI} (h61 : k ≠ 61) : lay_28 u c X S 0 k = S 0 k := by
  unfold lay_28
  simp only [wre]
  rw [jot0]
  repeat rw [uI_at (by omega)]
theorem ev_28_61 {u c : Nat} {X : Nat → Int32} {S : MI} : lay_28 u c X S 0 61 = (((((S 0 58)))) + (X 2)) := by
  simp (decide := true) only [lay_28, wre, jot0, uI_same, rr0, rr1, rrk, rrj, ne_eq]
theorem ev1_28_0 {u c : Nat} {X : Nat → Int32} {S : MI} : lay_28 u c X S 1 0 = S 1 0 := by
  simp (decide := true) only [lay_28, wre, jot1, uI_same, rr0, rr1, rrk, rrj, ne_eq]
theorem ev1_28_1 {u c : Nat} {X : Nat → Int32} {S : MI} : lay_28 u c X S 1 1 = S 1 1 := by
  simp (decide := true) only [lay_28, wre, jot1, uI_same, rr0, rr1, rrk, rrj, ne_eq]
theorem ev1_28_3 {u c : Nat} {X : Nat → Int32} {S : MI} : lay_28 u c X S 1 3 = S 1 3 + 1 := by
  simp (decide := true) only [lay_28, wre, jot13, uI_same, rr0, rr1, rrk, rrj, ne_eq]
theorem span26 {c : Nat} {P : Nat → Int32} (hk : kin c) (hc : c < 29) (h : isL c 26 = true) : ansV 1 c P = 1 + iR (P 59) 2 := by
  rcases (show ∀ c, c < 29 → kin c → isL c 26 = true → c = 27 ∨ c = 28 by unfold kin; decide) c hc hk h with rfl | rfl
  · have e : chn 27 = [0, 26, 27] := by decide
    simp (decide := true) only [ansV, foldQ, e, List.foldl, byQ, by_span, if_true, if_false]
  · have e : chn 28 = [0, 26, 28] := by decide
    simp (decide := true) only [ansV, foldQ, e, List.foldl, byQ, by_span, if_true, if_false]
theorem chan14 {P : Nat → Int32} : ansV 4 14 P = 3 + P 39 := by
  have e : chn 14 = [0, 6, 9, 14] := by decide
  simp (decide := true) only [ansV, foldQ, e, List.foldl, byQ, by_channels, if_true, if_false]
theorem span0 {c : Nat} {P : Nat → Int32} (hk : kin c) (h9 : P 9 = 0) (h16 : P 16 = 0) (h18 : P 18 = 0) (h30 : P 30 = 0) (h39 : P 39 = 0) (h49 : P 49 = 0) (h54 : P 54 = 0) (h59 : P 59 = 0) (h12 : isL c 2 = true → P 12 = 3) (h55 : c = 24 → P 55 = 5) : ∃ w, 1 ≤ w ∧ w ≤ 6 ∧ mx1 (ansV 1 c P) = nI w := by
  simp only [kin, List.mem_cons, List.not_mem_nil, or_false] at hk
  rcases hk with rfl | rfl | rfl | rfl | rfl | rfl | rfl | rfl | rfl | rfl | rfl | rfl | rfl | rfl | rfl | rfl | rfl | rfl | rfl | rfl | rfl | rfl
  · have e : chn 2 = [0, 1, 2] := by decide
    exact ⟨1, by decide, by decide, by simp (decide := true) only [ansV, foldQ, e, List.foldl, byQ, by_span, if_true, if_false, h9, h16, h18, h30, h39, h49, h54, h59]⟩
  · have e : chn 3 = [0, 1, 2, 3] := by decide
    exact ⟨5, by decide, by decide, by simp (decide := true) only [ansV, foldQ, e, List.foldl, byQ, by_span, if_true, if_false, h12 (by decide), h9, h16, h18, h30, h39, h49, h54, h59]⟩
  · have e : chn 4 = [0, 1, 4] := by decide
    exact ⟨1, by decide, by decide, by simp (decide := true) only [ansV, foldQ, e, List.foldl, byQ, by_span, if_true, if_false, h9, h16, h18, h30, h39, h49, h54, h59]⟩
  · have e : chn 5 = [0, 1, 5] := by decide
    exact ⟨1, by decide, by decide, by simp (decide := true) only [ansV, foldQ, e, List.foldl, byQ, by_span, if_true, if_false, h9, h16, h18, h30, h39, h49, h54, h59]⟩
  · have e : chn 7 = [0, 6, 7] := by decide
    exact ⟨1, by decide, by decide, by simp (decide := true) only [ansV, foldQ, e, List.foldl, byQ, by_span, if_true, if_false, h9, h16, h18, h30, h39, h49, h54, h59]⟩
  · have e : chn 8 = [0, 6, 7, 8] := by decide
    exact ⟨1, by decide, by decide, by simp (decide := true) only [ansV, foldQ, e, List.foldl, byQ, by_span, if_true, if_false, h9, h16, h18, h30, h39, h49, h54, h59]⟩
  · have e : chn 10 = [0, 6, 9, 10] := by decide
    exact ⟨1, by decide, by decide, by simp (decide := true) only [ansV, foldQ, e, List.foldl, byQ, by_span, if_true, if_false, h9, h16, h18, h30, h39, h49, h54, h59]⟩
  · have e : chn 11 = [0, 6, 9, 10, 11] := by decide
    exact ⟨1, by decide, by decide, by simp (decide := true) only [ansV, foldQ, e, List.foldl, byQ, by_span, if_true, if_false, h9, h16, h18, h30, h39, h49, h54, h59]⟩
  · have e : chn 12 = [0, 6, 9, 12] := by decide
    exact ⟨1, by decide, by decide, by simp (decide := true) only [ansV, foldQ, e, List.foldl, byQ, by_span, if_true, if_false, h9, h16, h18, h30, h39, h49, h54, h59]⟩
  · have e : chn 13 = [0, 6, 9, 13] := by decide
    exact ⟨1, by decide, by decide, by simp (decide := true) only [ansV, foldQ, e, List.foldl, byQ, by_span, if_true, if_false, h9, h16, h18, h30, h39, h49, h54, h59]⟩
  · have e : chn 14 = [0, 6, 9, 14] := by decide
    exact ⟨1, by decide, by decide, by simp (decide := true) only [ansV, foldQ, e, List.foldl, byQ, by_span, if_true, if_false, h9, h16, h18, h30, h39, h49, h54, h59]⟩
  · have e : chn 16 = [0, 6, 15, 16] := by decide
    exact ⟨1, by decide, by decide, by simp (decide := true) only [ansV, foldQ, e, List.foldl, byQ, by_span, if_true, if_false, h9, h16, h18, h30, h39, h49, h54, h59]⟩
  · have e : chn 17 = [0, 6, 15, 17] := by decide
    exact ⟨1, by decide, by decide, by simp (decide := true) only [ansV, foldQ, e, List.foldl, byQ, by_span, if_true, if_false, h9, h16, h18, h30, h39, h49, h54, h59]⟩
  · have e : chn 18 = [0, 6, 15, 18] := by decide
    exact ⟨1, by decide, by decide, by simp (decide := true) only [ansV, foldQ, e, List.foldl, byQ, by_span, if_true, if_false, h9, h16, h18, h30, h39, h49, h54, h59]⟩
  · have e : chn 19 = [0, 6, 15, 18, 19] := by decide
    exact ⟨3, by decide, by decide, by simp (decide := true) only [ansV, foldQ, e, List.foldl, byQ, by_span, if_true, if_false, h9, h16, h18, h30, h39, h49, h54, h59]⟩
  · have e : chn 20 = [0, 6, 20] := by decide
    exact ⟨2, by decide, by decide, by simp (decide := true) only [ansV, foldQ, e, List.foldl, byQ, by_span, if_true, if_false, h9, h16, h18, h30, h39, h49, h54, h59]⟩
  · have e : chn 21 = [0, 6, 20, 21] := by decide
    exact ⟨2, by decide, by decide, by simp (decide := true) only [ansV, foldQ, e, List.foldl, byQ, by_span, if_true, if_false, h9, h16, h18, h30, h39, h49, h54, h59]⟩
  · have e : chn 23 = [0, 22, 23] := by decide
    exact ⟨1, by decide, by decide, by simp (decide := true) only [ansV, foldQ, e, List.foldl, byQ, by_span, if_true, if_false, h9, h16, h18, h30, h39, h49, h54, h59]⟩
  · have e : chn 24 = [0, 22, 23, 24] := by decide
    exact ⟨6, by decide, by decide, by simp (decide := true) only [ansV, foldQ, e, List.foldl, byQ, by_span, if_true, if_false, h55 rfl, h9, h16, h18, h30, h39, h49, h54, h59]⟩
  · have e : chn 25 = [0, 22, 25] := by decide
    exact ⟨1, by decide, by decide, by simp (decide := true) only [ansV, foldQ, e, List.foldl, byQ, by_span, if_true, if_false, h9, h16, h18, h30, h39, h49, h54, h59]⟩
  · have e : chn 27 = [0, 26, 27] := by decide
    exact ⟨1, by decide, by decide, by simp (decide := true) only [ansV, foldQ, e, List.foldl, byQ, by_span, if_true, if_false, h9, h16, h18, h30, h39, h49, h54, h59]⟩
  · have e : chn 28 = [0, 26, 28] := by decide
    exact ⟨1, by decide, by decide, by simp (decide := true) only [ansV, foldQ, e, List.foldl, byQ, by_span, if_true, if_false, h9, h16, h18, h30, h39, h49, h54, h59]⟩
theorem nn_iR {x : Int32} {d : Nat} (h : nn x 2000000000) (h0 : 0 < d) (hd : d < 2 ^ 31) : nn (iR x (nI d)) (d - 1) := by
  obtain ⟨k, k1, rfl⟩ := h
  rw [iR_nI (by omega) h0 hd]
  have := Nat.mod_lt k h0
  exact ⟨k % d, by omega, rfl⟩
theorem nn_add {x y : Int32} {a b : Nat} (h : nn x a) (h2 : nn y b) : nn (x + y) (a + b) := by
  obtain ⟨k, k1, rfl⟩ := h
  obtain ⟨j, j1, rfl⟩ := h2
  exact ⟨k + j, by omega, nI_add _ _⟩
theorem nn_one {x : Int32} {a : Nat} (h : nn x a) : nn (x + 1) (a + 1) := nn_add h ⟨1, by decide, rfl⟩
theorem nn_mul {x : Int32} {a b : Nat} (h : nn x a) : nn (x * nI b) (a * b) := by
  obtain ⟨k, k1, rfl⟩ := h
  exact ⟨k * b, Nat.mul_le_mul_right b k1, pk_mul _ _⟩
theorem n1.nn {x : Int32} {a : Nat} (h : n1 x a) : nn x a := by
  obtain ⟨k, k0, k1, k2⟩ := h
  exact ⟨k, k1, k2⟩
def INV (cd : Nat → Nat) (u : Nat) (X : Nat → Int32) (lo Kd Ka Kn : Nat) (S : MI) : Prop :=
  S 0 0 = nI (cd u) ∧ (0 < lo → S 0 1 = nI u) ∧ (isL (cd u) 2 = true → S 0 12 = 3) ∧ (cd u = 17 → S 0 46 = 7) ∧ (cd u = 24 → S 0 55 = 5) ∧ nn (S 1 0) (Kd + lo) ∧ (lo = 0 → nn (S 1 1) Ka) ∧ nn (S 1 1) (Ka + 6) ∧ nn (S 1 3) (Kn + lo) ∧ nn (S 0 2) 1500 ∧ nn (S 0 4) 1000 ∧ nn (S 0 52) 2 ∧ nn (S 0 53) 20 ∧ nn (S 0 54) 3 ∧ nn (S 0 9) 2000 ∧ nn (S 0 23) 50 ∧ nn (S 0 43) 2000 ∧ nn (S 0 61) 100 ∧ nn (S 0 49) 10000 ∧ nn (S 0 59) 19 ∧ nn (S 0 39) 10 ∧ nn (S 0 50) 40 ∧ nn (S 0 35) 2 ∧ nn (S 0 58) 10 ∧ (lo ≤ 14 → S 0 39 = 0) ∧ (cd u = 14 → 9 < lo → S 0 30 = 3) ∧ (isL (cd u) 9 = true → 9 < lo → n1 (S 0 31) 50) ∧ (cd u = 21 → 21 < lo → n1 (S 0 31) 50) ∧ (isL (cd u) 18 = true → 18 < lo → n1 (S 0 47) 3) ∧ (cd u = 19 → 19 < lo → n1 (S 0 48) 50) ∧ (cd u = 8 → 8 < lo → S 0 27 = X 1) ∧ (cd u = 13 → 13 < lo → S 0 27 = X 2) ∧ (cd u = 14 → 14 < lo → S 0 27 = X 2) ∧ (isL (cd u) 18 = true → 18 < lo → S 0 27 = X 2) ∧ (cd u = 25 → 25 < lo → S 0 27 = X 1) ∧ (isL (cd u) 26 = true → 26 < lo → S 0 59 = X 0 ∧ S 0 60 = X 1) ∧ (lo = 0 → S 0 9 = 0 ∧ S 0 16 = 0 ∧ S 0 18 = 0 ∧ S 0 30 = 0 ∧ S 0 39 = 0 ∧ S 0 49 = 0 ∧ S 0 54 = 0 ∧ S 0 59 = 0) ∧ nn (S 0 5) 10
theorem inv_0 {n : Nat} {cd : Nat → Nat} {u : Nat} {X : Nat → Int32} {lo Kd Ka Kn : Nat} {S : MI} (h : INV cd u X lo Kd Ka Kn S) (hn : n ≤ 20) (ft : FT n cd u X) (hc : cd u < 29) (hk : kin (cd u)) (hKd : Kd + 31 ≤ 1500) (hKa : Ka ≤ 900) (hil : isL (cd u) 0 = true) (hlo : lo ≤ 0) (gap : ∀ t, lo ≤ t → t < 0 → isL (cd u) t = false) : INV cd u X 1 Kd Ka Kn (lay_0 u (cd u) X S) := by
  obtain ⟨a0, a1, a2, a3, a4, b0, b1, b2, b3, c2, c4, c52, c53, c54, c9, c23, c43, c61, c49, c59, c39, c50, c35, c58, d0, d1, d2, d3, d4, d5, d6, d7, d8, d9, d10, d11, z, c5⟩ := h
  have gp : ∀ t, t < 0 → isL (cd u) t = true → t < lo := fun t h1 h2 => by
    rcases Nat.lt_or_ge t lo with q | q
    · exact q
    · rw [gap t q h1] at h2; cases h2
  have hlo0 : lo = 0 := by omega
  obtain ⟨z9, z16, z18, z30, z39, z49, z54, z59⟩ := z hlo0
  obtain ⟨w, w1, w2, w3⟩ := span0 (c := cd u) (P := (uI (uI (uI (uI (uI S 0 1 ((nI u))) 1 0 (((S 1 0) + 1))) 0 2 (((((S 1 0) + 1))))) 0 3 ((ansV 0 (cd u) ((uI (uI (uI S 0 1 ((nI u))) 1 0 (((S 1 0) + 1))) 0 2 (((((S 1 0) + 1))))) 0)))) 0 4 (((S 1 1)))) 0) hk (by simp (decide := true) only [uI_same, rr0, rr1, rrk, rrj, ne_eq]; exact z9) (by simp (decide := true) only [uI_same, rr0, rr1, rrk, rrj, ne_eq]; exact z16) (by simp (decide := true) only [uI_same, rr0, rr1, rrk, rrj, ne_eq]; exact z18) (by simp (decide := true) only [uI_same, rr0, rr1, rrk, rrj, ne_eq]; exact z30) (by simp (decide := true) only [uI_same, rr0, rr1, rrk, rrj, ne_eq]; exact z39) (by simp (decide := true) only [uI_same, rr0, rr1, rrk, rrj, ne_eq]; exact z49) (by simp (decide := true) only [uI_same, rr0, rr1, rrk, rrj, ne_eq]; exact z54) (by simp (decide := true) only [uI_same, rr0, rr1, rrk, rrj, ne_eq]; exact z59) (fun q => by simp (decide := true) only [uI_same, rr0, rr1, rrk, rrj, ne_eq]; exact a2 q) (fun q => by simp (decide := true) only [uI_same, rr0, rr1, rrk, rrj, ne_eq]; exact a4 q)
  refine ⟨?_, ?_, ?_, ?_, ?_, ?_, ?_, ?_, ?_, ?_, ?_, ?_, ?_, ?_, ?_, ?_, ?_, ?_, ?_, ?_, ?_, ?_, ?_, ?_, ?_, ?_, ?_, ?_, ?_, ?_, ?_, ?_, ?_, ?_, ?_, ?_, ?_, ?_⟩
  · exact by rw [evo_0 (u := u) (c := cd u) (X := X) (S := S) (k := 0) (by decide) (by decide) (by decide) (by decide) (by decide) (by decide)]; exact a0
  · exact fun _ => ev_0_1
  · exact fun q => by rw [evo_0 (u := u) (c := cd u) (X := X) (S := S) (k := 12) (by decide) (by decide) (by decide) (by decide) (by decide) (by decide)]; exact a2 q
  · exact fun q => by rw [evo_0 (u := u) (c := cd u) (X := X) (S := S) (k := 46) (by decide) (by decide) (by decide) (by decide) (by decide) (by decide)]; exact a3 q
  · exact fun q => by rw [evo_0 (u := u) (c := cd u) (X := X) (S := S) (k := 55) (by decide) (by decide) (by decide) (by decide) (by decide) (by decide)]; exact a4 q
  · exact by rw [ev1_0_0]; exact (nn_one b0).mono (by omega)
  · exact fun q => by omega
  · exact by rw [ev1_0_1, w3]; exact (nn_add (b1 hlo0) (⟨w, w2, rfl⟩ : nn (nI w) 6))
  · exact by rw [ev1_0_3]; exact (nn_one b3).mono (by omega)
  · exact by rw [ev_0_2]; exact (nn_one b0).mono (by omega)
  · exact by rw [ev_0_4]; exact (b1 hlo0).mono (by omega)
  · exact by rw [evo_0 (u := u) (c := cd u) (X := X) (S := S) (k := 52) (by decide) (by decide) (by decide) (by decide) (by decide) (by decide)]; exact c52
  · exact by rw [evo_0 (u := u) (c := cd u) (X := X) (S := S) (k := 53) (by decide) (by decide) (by decide) (by decide) (by decide) (by decide)]; exact c53
  · exact by rw [evo_0 (u := u) (c := cd u) (X := X) (S := S) (k := 54) (by decide) (by decide) (by decide) (by decide) (by decide) (by decide)]; exact c54
  · exact by rw [evo_0 (u := u) (c := cd u) (X := X) (S := S) (k := 9) (by decide) (by decide) (by decide) (by decide) (by decide) (by decide)]; exact c9
  · exact by rw [evo_0 (u := u) (c := cd u) (X := X) (S := S) (k := 23) (by decide) (by decide) (by decide) (by decide) (by decide) (by decide)]; exact c23
  · exact by rw [evo_0 (u := u) (c := cd u) (X := X) (S := S) (k := 43) (by decide) (by decide) (by decide) (by decide) (by decide) (by decide)]; exact c43
  · exact by rw [evo_0 (u := u) (c := cd u) (X := X) (S := S) (k := 61) (by decide) (by decide) (by decide) (by decide) (by decide) (by decide)]; exact c61
  · exact by rw [evo_0 (u := u) (c := cd u) (X := X) (S := S) (k := 49) (by decide) (by decide) (by decide) (by decide) (by decide) (by decide)]; exact c49
  · exact by rw [evo_0 (u := u) (c := cd u) (X := X) (S := S) (k := 59) (by decide) (by decide) (by decide) (by decide) (by decide) (by decide)]; exact c59
  · exact by rw [evo_0 (u := u) (c := cd u) (X := X) (S := S) (k := 39) (by decide) (by decide) (by decide) (by decide) (by decide) (by decide)]; exact c39
  · exact by rw [evo_0 (u := u) (c := cd u) (X := X) (S := S) (k := 50) (by decide) (by decide) (by decide) (by decide) (by decide) (by decide)]; exact c50
  · exact by rw [evo_0 (u := u) (c := cd u) (X := X) (S := S) (k := 35) (by decide) (by decide) (by decide) (by decide) (by decide) (by decide)]; exact c35
  · exact by rw [evo_0 (u := u) (c := cd u) (X := X) (S := S) (k := 58) (by decide) (by decide) (by decide) (by decide) (by decide) (by decide)]; exact c58
  · exact fun q => by rw [evo_0 (u := u) (c := cd u) (X := X) (S := S) (k := 39) (by decide) (by decide) (by decide) (by decide) (by decide) (by decide)]; exact d0 (by omega)
  · exact fun _ hl => absurd hl (by omega)
  · exact fun _ hl => absurd hl (by omega)
  · exact fun _ hl => absurd hl (by omega)
  · exact fun _ hl => absurd hl (by omega)
  · exact fun _ hl => absurd hl (by omega)
  · exact fun _ hl => absurd hl (by omega)
  · exact fun _ hl => absurd hl (by omega)
  · exact fun _ hl => absurd hl (by omega)
  · exact fun _ hl => absurd hl (by omega)
  · exact fun _ hl => absurd hl (by omega)
  · exact fun _ hl => absurd hl (by omega)
  · exact fun q => by omega
  · exact by rw [ev_0_5, w3]; exact ⟨w, by omega, rfl⟩
theorem inv_1 {n : Nat} {cd : Nat → Nat} {u : Nat} {X : Nat → Int32} {lo Kd Ka Kn : Nat} {S : MI} (h : INV cd u X lo Kd Ka Kn S) (hn : n ≤ 20) (ft : FT n cd u X) (hc : cd u < 29) (hk : kin (cd u)) (hKd : Kd + 31 ≤ 1500) (hKa : Ka ≤ 900) (hil : isL (cd u) 1 = true) (hlo : lo ≤ 1) (gap : ∀ t, lo ≤ t → t < 1 → isL (cd u) t = false) : INV cd u X 2 Kd Ka Kn (lay_1 u (cd u) X S) := by
  obtain ⟨a0, a1, a2, a3, a4, b0, b1, b2, b3, c2, c4, c52, c53, c54, c9, c23, c43, c61, c49, c59, c39, c50, c35, c58, d0, d1, d2, d3, d4, d5, d6, d7, d8, d9, d10, d11, z, c5⟩ := h
  have gp : ∀ t, t < 1 → isL (cd u) t = true → t < lo := fun t h1 h2 => by
    rcases Nat.lt_or_ge t lo with q | q
    · exact q
    · rw [gap t q h1] at h2; cases h2
  refine ⟨?_, ?_, ?_, ?_, ?_, ?_, ?_, ?_, ?_, ?_, ?_, ?_, ?_, ?_, ?_, ?_, ?_, ?_, ?_, ?_, ?_, ?_, ?_, ?_, ?_, ?_, ?_, ?_, ?_, ?_, ?_, ?_, ?_, ?_, ?_, ?_, ?_, ?_⟩
  · exact by rw [evo_1 (u := u) (c := cd u) (X := X) (S := S) (k := 0) (by decide) (by decide) (by decide) (by decide)]; exact a0
  · exact fun _ => by rw [evo_1 (u := u) (c := cd u) (X := X) (S := S) (k := 1) (by decide) (by decide) (by decide) (by decide)]; exact a1 (gp 0 (by decide) ((show ∀ c, c < 29 → isL c 0 = true by decide) _ hc))
  · exact fun q => by rw [evo_1 (u := u) (c := cd u) (X := X) (S := S) (k := 12) (by decide) (by decide) (by decide) (by decide)]; exact a2 q
  · exact fun q => by rw [evo_1 (u := u) (c := cd u) (X := X) (S := S) (k := 46) (by decide) (by decide) (by decide) (by decide)]; exact a3 q
  · exact fun q => by rw [evo_1 (u := u) (c := cd u) (X := X) (S := S) (k := 55) (by decide) (by decide) (by decide) (by decide)]; exact a4 q
  · exact by rw [ev1_1_0]; exact (nn_one b0).mono (by omega)
  · exact fun q => by omega
  · exact by rw [ev1_1_1]; exact b2
  · exact by rw [ev1_1_3]; exact (nn_one b3).mono (by omega)
  · exact by rw [evo_1 (u := u) (c := cd u) (X := X) (S := S) (k := 2) (by decide) (by decide) (by decide) (by decide)]; exact c2
  · exact by rw [evo_1 (u := u) (c := cd u) (X := X) (S := S) (k := 4) (by decide) (by decide) (by decide) (by decide)]; exact c4
  · exact by rw [evo_1 (u := u) (c := cd u) (X := X) (S := S) (k := 52) (by decide) (by decide) (by decide) (by decide)]; exact c52
  · exact by rw [evo_1 (u := u) (c := cd u) (X := X) (S := S) (k := 53) (by decide) (by decide) (by decide) (by decide)]; exact c53
  · exact by rw [evo_1 (u := u) (c := cd u) (X := X) (S := S) (k := 54) (by decide) (by decide) (by decide) (by decide)]; exact c54
  · exact by rw [ev_1_9]; exact (ft.1 ((show ∀ c, c < 29 → kin c → isL c 1 = true → c = 2 ∨ c = 3 ∨ c = 4 ∨ c = 5 by unfold kin; decide) _ hc hk hil)).nn
  · exact by rw [evo_1 (u := u) (c := cd u) (X := X) (S := S) (k := 23) (by decide) (by decide) (by decide) (by decide)]; exact c23
  · exact by rw [evo_1 (u := u) (c := cd u) (X := X) (S := S) (k := 43) (by decide) (by decide) (by decide) (by decide)]; exact c43
  · exact by rw [evo_1 (u := u) (c := cd u) (X := X) (S := S) (k := 61) (by decide) (by decide) (by decide) (by decide)]; exact c61
  · exact by rw [evo_1 (u := u) (c := cd u) (X := X) (S := S) (k := 49) (by decide) (by decide) (by decide) (by decide)]; exact c49
  · exact by rw [evo_1 (u := u) (c := cd u) (X := X) (S := S) (k := 59) (by decide) (by decide) (by decide) (by decide)]; exact c59
  · exact by rw [evo_1 (u := u) (c := cd u) (X := X) (S := S) (k := 39) (by decide) (by decide) (by decide) (by decide)]; exact c39
  · exact by rw [evo_1 (u := u) (c := cd u) (X := X) (S := S) (k := 50) (by decide) (by decide) (by decide) (by decide)]; exact c50
  · exact by rw [evo_1 (u := u) (c := cd u) (X := X) (S := S) (k := 35) (by decide) (by decide) (by decide) (by decide)]; exact c35
  · exact by rw [evo_1 (u := u) (c := cd u) (X := X) (S := S) (k := 58) (by decide) (by decide) (by decide) (by decide)]; exact c58
  · exact fun q => by rw [evo_1 (u := u) (c := cd u) (X := X) (S := S) (k := 39) (by decide) (by decide) (by decide) (by decide)]; exact d0 (by omega)
  · exact fun _ hl => absurd hl (by omega)
  · exact fun _ hl => absurd hl (by omega)
  · exact fun _ hl => absurd hl (by omega)
  · exact fun _ hl => absurd hl (by omega)
  · exact fun _ hl => absurd hl (by omega)
  · exact fun _ hl => absurd hl (by omega)
  · exact fun _ hl => absurd hl (by omega)
  · exact fun _ hl => absurd hl (by omega)
  · exact fun _ hl => absurd hl (by omega)
  · exact fun _ hl => absurd hl (by omega)
  · exact fun _ hl => absurd hl (by omega)
  · exact fun q => by omega
  · exact by rw [evo_1 (u := u) (c := cd u) (X := X) (S := S) (k := 5) (by decide) (by decide) (by decide) (by decide)]; exact c5
theorem inv_2 {n : Nat} {cd : Nat → Nat} {u : Nat} {X : Nat → Int32} {lo Kd Ka Kn : Nat} {S : MI} (h : INV cd u X lo Kd Ka Kn S) (hn : n ≤ 20) (ft : FT n cd u X) (hc : cd u < 29) (hk : kin (cd u)) (hKd : Kd + 31 ≤ 1500) (hKa : Ka ≤ 900) (hil : isL (cd u) 2 = true) (hlo : lo ≤ 2) (gap : ∀ t, lo ≤ t → t < 2 → isL (cd u) t = false) : INV cd u X 3 Kd Ka Kn (lay_2 u (cd u) X S) := by
  obtain ⟨a0, a1, a2, a3, a4, b0, b1, b2, b3, c2, c4, c52, c53, c54, c9, c23, c43, c61, c49, c59, c39, c50, c35, c58, d0, d1, d2, d3, d4, d5, d6, d7, d8, d9, d10, d11, z, c5⟩ := h
  have gp : ∀ t, t < 2 → isL (cd u) t = true → t < lo := fun t h1 h2 => by
    rcases Nat.lt_or_ge t lo with q | q
    · exact q
    · rw [gap t q h1] at h2; cases h2
  refine ⟨?_, ?_, ?_, ?_, ?_, ?_, ?_, ?_, ?_, ?_, ?_, ?_, ?_, ?_, ?_, ?_, ?_, ?_, ?_, ?_, ?_, ?_, ?_, ?_, ?_, ?_, ?_, ?_, ?_, ?_, ?_, ?_, ?_, ?_, ?_, ?_, ?_, ?_⟩
  · exact by rw [evo_2 (u := u) (c := cd u) (X := X) (S := S) (k := 0) (by decide) (by decide) (by decide)]; exact a0
  · exact fun _ => by rw [evo_2 (u := u) (c := cd u) (X := X) (S := S) (k := 1) (by decide) (by decide) (by decide)]; exact a1 (gp 0 (by decide) ((show ∀ c, c < 29 → isL c 0 = true by decide) _ hc))
  · exact fun q => by rw [evo_2 (u := u) (c := cd u) (X := X) (S := S) (k := 12) (by decide) (by decide) (by decide)]; exact a2 q
  · exact fun q => by rw [evo_2 (u := u) (c := cd u) (X := X) (S := S) (k := 46) (by decide) (by decide) (by decide)]; exact a3 q
  · exact fun q => by rw [evo_2 (u := u) (c := cd u) (X := X) (S := S) (k := 55) (by decide) (by decide) (by decide)]; exact a4 q
  · exact by rw [ev1_2_0]; exact (nn_one b0).mono (by omega)
  · exact fun q => by omega
  · exact by rw [ev1_2_1]; exact b2
  · exact by rw [ev1_2_3]; exact (nn_one b3).mono (by omega)
  · exact by rw [evo_2 (u := u) (c := cd u) (X := X) (S := S) (k := 2) (by decide) (by decide) (by decide)]; exact c2
  · exact by rw [evo_2 (u := u) (c := cd u) (X := X) (S := S) (k := 4) (by decide) (by decide) (by decide)]; exact c4
  · exact by rw [evo_2 (u := u) (c := cd u) (X := X) (S := S) (k := 52) (by decide) (by decide) (by decide)]; exact c52
  · exact by rw [evo_2 (u := u) (c := cd u) (X := X) (S := S) (k := 53) (by decide) (by decide) (by decide)]; exact c53
  · exact by rw [evo_2 (u := u) (c := cd u) (X := X) (S := S) (k := 54) (by decide) (by decide) (by decide)]; exact c54
  · exact by rw [evo_2 (u := u) (c := cd u) (X := X) (S := S) (k := 9) (by decide) (by decide) (by decide)]; exact c9
  · exact by rw [evo_2 (u := u) (c := cd u) (X := X) (S := S) (k := 23) (by decide) (by decide) (by decide)]; exact c23
  · exact by rw [evo_2 (u := u) (c := cd u) (X := X) (S := S) (k := 43) (by decide) (by decide) (by decide)]; exact c43
  · exact by rw [evo_2 (u := u) (c := cd u) (X := X) (S := S) (k := 61) (by decide) (by decide) (by decide)]; exact c61
  · exact by rw [evo_2 (u := u) (c := cd u) (X := X) (S := S) (k := 49) (by decide) (by decide) (by decide)]; exact c49
  · exact by rw [evo_2 (u := u) (c := cd u) (X := X) (S := S) (k := 59) (by decide) (by decide) (by decide)]; exact c59
  · exact by rw [evo_2 (u := u) (c := cd u) (X := X) (S := S) (k := 39) (by decide) (by decide) (by decide)]; exact c39
  · exact by rw [evo_2 (u := u) (c := cd u) (X := X) (S := S) (k := 50) (by decide) (by decide) (by decide)]; exact c50
  · exact by rw [evo_2 (u := u) (c := cd u) (X := X) (S := S) (k := 35) (by decide) (by decide) (by decide)]; exact c35
  · exact by rw [evo_2 (u := u) (c := cd u) (X := X) (S := S) (k := 58) (by decide) (by decide) (by decide)]; exact c58
  · exact fun q => by rw [evo_2 (u := u) (c := cd u) (X := X) (S := S) (k := 39) (by decide) (by decide) (by decide)]; exact d0 (by omega)
  · exact fun _ hl => absurd hl (by omega)
  · exact fun _ hl => absurd hl (by omega)
  · exact fun _ hl => absurd hl (by omega)
  · exact fun _ hl => absurd hl (by omega)
  · exact fun _ hl => absurd hl (by omega)
  · exact fun _ hl => absurd hl (by omega)
  · exact fun _ hl => absurd hl (by omega)
  · exact fun _ hl => absurd hl (by omega)
  · exact fun _ hl => absurd hl (by omega)
  · exact fun _ hl => absurd hl (by omega)
  · exact fun _ hl => absurd hl (by omega)
  · exact fun q => by omega
  · exact by rw [evo_2 (u := u) (c := cd u) (X := X) (S := S) (k := 5) (by decide) (by decide) (by decide)]; exact c5
theorem inv_3 {n : Nat} {cd : Nat → Nat} {u : Nat} {X : Nat → Int32} {lo Kd Ka Kn : Nat} {S : MI} (h : INV cd u X lo Kd Ka Kn S) (hn : n ≤ 20) (ft : FT n cd u X) (hc : cd u < 29) (hk : kin (cd u)) (hKd : Kd + 31 ≤ 1500) (hKa : Ka ≤ 900) (hil : isL (cd u) 3 = true) (hlo : lo ≤ 3) (gap : ∀ t, lo ≤ t → t < 3 → isL (cd u) t = false) : INV cd u X 4 Kd Ka Kn (lay_3 u (cd u) X S) := by
  obtain ⟨a0, a1, a2, a3, a4, b0, b1, b2, b3, c2, c4, c52, c53, c54, c9, c23, c43, c61, c49, c59, c39, c50, c35, c58, d0, d1, d2, d3, d4, d5, d6, d7, d8, d9, d10, d11, z, c5⟩ := h
  have gp : ∀ t, t < 3 → isL (cd u) t = true → t < lo := fun t h1 h2 => by
    rcases Nat.lt_or_ge t lo with q | q
    · exact q
    · rw [gap t q h1] at h2; cases h2
  refine ⟨?_, ?_, ?_, ?_, ?_, ?_, ?_, ?_, ?_, ?_, ?_, ?_, ?_, ?_, ?_, ?_, ?_, ?_, ?_, ?_, ?_, ?_, ?_, ?_, ?_, ?_, ?_, ?_, ?_, ?_, ?_, ?_, ?_, ?_, ?_, ?_, ?_, ?_⟩
  · exact by rw [evo_3 (u := u) (c := cd u) (X := X) (S := S) (k := 0) (by decide) (by decide) (by decide) (by decide) (by decide)]; exact a0
  · exact fun _ => by rw [evo_3 (u := u) (c := cd u) (X := X) (S := S) (k := 1) (by decide) (by decide) (by decide) (by decide) (by decide)]; exact a1 (gp 0 (by decide) ((show ∀ c, c < 29 → isL c 0 = true by decide) _ hc))
  · exact fun q => by rw [evo_3 (u := u) (c := cd u) (X := X) (S := S) (k := 12) (by decide) (by decide) (by decide) (by decide) (by decide)]; exact a2 q
  · exact fun q => by rw [evo_3 (u := u) (c := cd u) (X := X) (S := S) (k := 46) (by decide) (by decide) (by decide) (by decide) (by decide)]; exact a3 q
  · exact fun q => by rw [evo_3 (u := u) (c := cd u) (X := X) (S := S) (k := 55) (by decide) (by decide) (by decide) (by decide) (by decide)]; exact a4 q
  · exact by rw [ev1_3_0]; exact b0.mono (by omega)
  · exact fun q => by omega
  · exact by rw [ev1_3_1]; exact b2
  · exact by rw [ev1_3_3]; exact (nn_one b3).mono (by omega)
  · exact by rw [evo_3 (u := u) (c := cd u) (X := X) (S := S) (k := 2) (by decide) (by decide) (by decide) (by decide) (by decide)]; exact c2
  · exact by rw [evo_3 (u := u) (c := cd u) (X := X) (S := S) (k := 4) (by decide) (by decide) (by decide) (by decide) (by decide)]; exact c4
  · exact by rw [evo_3 (u := u) (c := cd u) (X := X) (S := S) (k := 52) (by decide) (by decide) (by decide) (by decide) (by decide)]; exact c52
  · exact by rw [evo_3 (u := u) (c := cd u) (X := X) (S := S) (k := 53) (by decide) (by decide) (by decide) (by decide) (by decide)]; exact c53
  · exact by rw [evo_3 (u := u) (c := cd u) (X := X) (S := S) (k := 54) (by decide) (by decide) (by decide) (by decide) (by decide)]; exact c54
  · exact by rw [evo_3 (u := u) (c := cd u) (X := X) (S := S) (k := 9) (by decide) (by decide) (by decide) (by decide) (by decide)]; exact c9
  · exact by rw [evo_3 (u := u) (c := cd u) (X := X) (S := S) (k := 23) (by decide) (by decide) (by decide) (by decide) (by decide)]; exact c23
  · exact by rw [evo_3 (u := u) (c := cd u) (X := X) (S := S) (k := 43) (by decide) (by decide) (by decide) (by decide) (by decide)]; exact c43
  · exact by rw [evo_3 (u := u) (c := cd u) (X := X) (S := S) (k := 61) (by decide) (by decide) (by decide) (by decide) (by decide)]; exact c61
  · exact by rw [evo_3 (u := u) (c := cd u) (X := X) (S := S) (k := 49) (by decide) (by decide) (by decide) (by decide) (by decide)]; exact c49
  · exact by rw [evo_3 (u := u) (c := cd u) (X := X) (S := S) (k := 59) (by decide) (by decide) (by decide) (by decide) (by decide)]; exact c59
  · exact by rw [evo_3 (u := u) (c := cd u) (X := X) (S := S) (k := 39) (by decide) (by decide) (by decide) (by decide) (by decide)]; exact c39
  · exact by rw [evo_3 (u := u) (c := cd u) (X := X) (S := S) (k := 50) (by decide) (by decide) (by decide) (by decide) (by decide)]; exact c50
  · exact by rw [evo_3 (u := u) (c := cd u) (X := X) (S := S) (k := 35) (by decide) (by decide) (by decide) (by decide) (by decide)]; exact c35
  · exact by rw [evo_3 (u := u) (c := cd u) (X := X) (S := S) (k := 58) (by decide) (by decide) (by decide) (by decide) (by decide)]; exact c58
  · exact fun q => by rw [evo_3 (u := u) (c := cd u) (X := X) (S := S) (k := 39) (by decide) (by decide) (by decide) (by decide) (by decide)]; exact d0 (by omega)
  · exact fun _ hl => absurd hl (by omega)
  · exact fun _ hl => absurd hl (by omega)
  · exact fun _ hl => absurd hl (by omega)
  · exact fun _ hl => absurd hl (by omega)
  · exact fun _ hl => absurd hl (by omega)
  · exact fun _ hl => absurd hl (by omega)
  · exact fun _ hl => absurd hl (by omega)
  · exact fun _ hl => absurd hl (by omega)
  · exact fun _ hl => absurd hl (by omega)
  · exact fun _ hl => absurd hl (by omega)
  · exact fun _ hl => absurd hl (by omega)
  · exact fun q => by omega
  · exact by rw [evo_3 (u := u) (c := cd u) (X := X) (S := S) (k := 5) (by decide) (by decide) (by decide) (by decide) (by decide)]; exact c5
theorem inv_4 {n : Nat} {cd : Nat → Nat} {u : Nat} {X : Nat → Int32} {lo Kd Ka Kn : Nat} {S : MI} (h : INV cd u X lo Kd Ka Kn S) (hn : n ≤ 20) (ft : FT n cd u X) (hc : cd u < 29) (hk : kin (cd u)) (hKd : Kd + 31 ≤ 1500) (hKa : Ka ≤ 900) (hil : isL (cd u) 4 = true) (hlo : lo ≤ 4) (gap : ∀ t, lo ≤ t → t < 4 → isL (cd u) t = false) : INV cd u X 5 Kd Ka Kn (lay_4 u (cd u) X S) := by
  obtain ⟨a0, a1, a2, a3, a4, b0, b1, b2, b3, c2, c4, c52, c53, c54, c9, c23, c43, c61, c49, c59, c39, c50, c35, c58, d0, d1, d2, d3, d4, d5, d6, d7, d8, d9, d10, d11, z, c5⟩ := h
  have gp : ∀ t, t < 4 → isL (cd u) t = true → t < lo := fun t h1 h2 => by
    rcases Nat.lt_or_ge t lo with q | q
    · exact q
    · rw [gap t q h1] at h2; cases h2
  refine ⟨?_, ?_, ?_, ?_, ?_, ?_, ?_, ?_, ?_, ?_, ?_, ?_, ?_, ?_, ?_, ?_, ?_, ?_, ?_, ?_, ?_, ?_, ?_, ?_, ?_, ?_, ?_, ?_, ?_, ?_, ?_, ?_, ?_, ?_, ?_, ?_, ?_, ?_⟩
  · exact by rw [evo_4 (u := u) (c := cd u) (X := X) (S := S) (k := 0) (by decide) (by decide)]; exact a0
  · exact fun _ => by rw [evo_4 (u := u) (c := cd u) (X := X) (S := S) (k := 1) (by decide) (by decide)]; exact a1 (gp 0 (by decide) ((show ∀ c, c < 29 → isL c 0 = true by decide) _ hc))
  · exact fun q => by rw [evo_4 (u := u) (c := cd u) (X := X) (S := S) (k := 12) (by decide) (by decide)]; exact a2 q
  · exact fun q => by rw [evo_4 (u := u) (c := cd u) (X := X) (S := S) (k := 46) (by decide) (by decide)]; exact a3 q
  · exact fun q => by rw [evo_4 (u := u) (c := cd u) (X := X) (S := S) (k := 55) (by decide) (by decide)]; exact a4 q
  · exact by rw [ev1_4_0]; exact b0.mono (by omega)
  · exact fun q => by omega
  · exact by rw [ev1_4_1]; exact b2
  · exact by rw [ev1_4_3]; exact (nn_one b3).mono (by omega)
  · exact by rw [evo_4 (u := u) (c := cd u) (X := X) (S := S) (k := 2) (by decide) (by decide)]; exact c2
  · exact by rw [evo_4 (u := u) (c := cd u) (X := X) (S := S) (k := 4) (by decide) (by decide)]; exact c4
  · exact by rw [evo_4 (u := u) (c := cd u) (X := X) (S := S) (k := 52) (by decide) (by decide)]; exact c52
  · exact by rw [evo_4 (u := u) (c := cd u) (X := X) (S := S) (k := 53) (by decide) (by decide)]; exact c53
  · exact by rw [evo_4 (u := u) (c := cd u) (X := X) (S := S) (k := 54) (by decide) (by decide)]; exact c54
  · exact by rw [evo_4 (u := u) (c := cd u) (X := X) (S := S) (k := 9) (by decide) (by decide)]; exact c9
  · exact by rw [evo_4 (u := u) (c := cd u) (X := X) (S := S) (k := 23) (by decide) (by decide)]; exact c23
  · exact by rw [evo_4 (u := u) (c := cd u) (X := X) (S := S) (k := 43) (by decide) (by decide)]; exact c43
  · exact by rw [evo_4 (u := u) (c := cd u) (X := X) (S := S) (k := 61) (by decide) (by decide)]; exact c61
  · exact by rw [evo_4 (u := u) (c := cd u) (X := X) (S := S) (k := 49) (by decide) (by decide)]; exact c49
  · exact by rw [evo_4 (u := u) (c := cd u) (X := X) (S := S) (k := 59) (by decide) (by decide)]; exact c59
  · exact by rw [evo_4 (u := u) (c := cd u) (X := X) (S := S) (k := 39) (by decide) (by decide)]; exact c39
  · exact by rw [evo_4 (u := u) (c := cd u) (X := X) (S := S) (k := 50) (by decide) (by decide)]; exact c50
  · exact by rw [evo_4 (u := u) (c := cd u) (X := X) (S := S) (k := 35) (by decide) (by decide)]; exact c35
  · exact by rw [evo_4 (u := u) (c := cd u) (X := X) (S := S) (k := 58) (by decide) (by decide)]; exact c58
  · exact fun q => by rw [evo_4 (u := u) (c := cd u) (X := X) (S := S) (k := 39) (by decide) (by decide)]; exact d0 (by omega)
  · exact fun _ hl => absurd hl (by omega)
  · exact fun _ hl => absurd hl (by omega)
  · exact fun _ hl => absurd hl (by omega)
  · exact fun _ hl => absurd hl (by omega)
  · exact fun _ hl => absurd hl (by omega)
  · exact fun _ hl => absurd hl (by omega)
  · exact fun _ hl => absurd hl (by omega)
  · exact fun _ hl => absurd hl (by omega)
  · exact fun _ hl => absurd hl (by omega)
  · exact fun _ hl => absurd hl (by omega)
  · exact fun _ hl => absurd hl (by omega)
  · exact fun q => by omega
  · exact by rw [evo_4 (u := u) (c := cd u) (X := X) (S := S) (k := 5) (by decide) (by decide)]; exact c5
theorem inv_5 {n : Nat} {cd : Nat → Nat} {u : Nat} {X : Nat → Int32} {lo Kd Ka Kn : Nat} {S : MI} (h : INV cd u X lo Kd Ka Kn S) (hn : n ≤ 20) (ft : FT n cd u X) (hc : cd u < 29) (hk : kin (cd u)) (hKd : Kd + 31 ≤ 1500) (hKa : Ka ≤ 900) (hil : isL (cd u) 5 = true) (hlo : lo ≤ 5) (gap : ∀ t, lo ≤ t → t < 5 → isL (cd u) t = false) : INV cd u X 6 Kd Ka Kn (lay_5 u (cd u) X S) := by
  obtain ⟨a0, a1, a2, a3, a4, b0, b1, b2, b3, c2, c4, c52, c53, c54, c9, c23, c43, c61, c49, c59, c39, c50, c35, c58, d0, d1, d2, d3, d4, d5, d6, d7, d8, d9, d10, d11, z, c5⟩ := h
  have gp : ∀ t, t < 5 → isL (cd u) t = true → t < lo := fun t h1 h2 => by
    rcases Nat.lt_or_ge t lo with q | q
    · exact q
    · rw [gap t q h1] at h2; cases h2
  refine ⟨?_, ?_, ?_, ?_, ?_, ?_, ?_, ?_, ?_, ?_, ?_, ?_, ?_, ?_, ?_, ?_, ?_, ?_, ?_, ?_, ?_, ?_, ?_, ?_, ?_, ?_, ?_, ?_, ?_, ?_, ?_, ?_, ?_, ?_, ?_, ?_, ?_, ?_⟩
  · exact by rw [evo_5 (u := u) (c := cd u) (X := X) (S := S) (k := 0) (by decide) (by decide) (by decide) (by decide)]; exact a0
  · exact fun _ => by rw [evo_5 (u := u) (c := cd u) (X := X) (S := S) (k := 1) (by decide) (by decide) (by decide) (by decide)]; exact a1 (gp 0 (by decide) ((show ∀ c, c < 29 → isL c 0 = true by decide) _ hc))
  · exact fun q => by rw [evo_5 (u := u) (c := cd u) (X := X) (S := S) (k := 12) (by decide) (by decide) (by decide) (by decide)]; exact a2 q
  · exact fun q => by rw [evo_5 (u := u) (c := cd u) (X := X) (S := S) (k := 46) (by decide) (by decide) (by decide) (by decide)]; exact a3 q
  · exact fun q => by rw [evo_5 (u := u) (c := cd u) (X := X) (S := S) (k := 55) (by decide) (by decide) (by decide) (by decide)]; exact a4 q
  · exact by rw [ev1_5_0]; exact b0.mono (by omega)
  · exact fun q => by omega
  · exact by rw [ev1_5_1]; exact b2
  · exact by rw [ev1_5_3]; exact (nn_one b3).mono (by omega)
  · exact by rw [evo_5 (u := u) (c := cd u) (X := X) (S := S) (k := 2) (by decide) (by decide) (by decide) (by decide)]; exact c2
  · exact by rw [evo_5 (u := u) (c := cd u) (X := X) (S := S) (k := 4) (by decide) (by decide) (by decide) (by decide)]; exact c4
  · exact by rw [evo_5 (u := u) (c := cd u) (X := X) (S := S) (k := 52) (by decide) (by decide) (by decide) (by decide)]; exact c52
  · exact by rw [evo_5 (u := u) (c := cd u) (X := X) (S := S) (k := 53) (by decide) (by decide) (by decide) (by decide)]; exact c53
  · exact by rw [evo_5 (u := u) (c := cd u) (X := X) (S := S) (k := 54) (by decide) (by decide) (by decide) (by decide)]; exact c54
  · exact by rw [evo_5 (u := u) (c := cd u) (X := X) (S := S) (k := 9) (by decide) (by decide) (by decide) (by decide)]; exact c9
  · exact by rw [evo_5 (u := u) (c := cd u) (X := X) (S := S) (k := 23) (by decide) (by decide) (by decide) (by decide)]; exact c23
  · exact by rw [evo_5 (u := u) (c := cd u) (X := X) (S := S) (k := 43) (by decide) (by decide) (by decide) (by decide)]; exact c43
  · exact by rw [evo_5 (u := u) (c := cd u) (X := X) (S := S) (k := 61) (by decide) (by decide) (by decide) (by decide)]; exact c61
  · exact by rw [evo_5 (u := u) (c := cd u) (X := X) (S := S) (k := 49) (by decide) (by decide) (by decide) (by decide)]; exact c49
  · exact by rw [evo_5 (u := u) (c := cd u) (X := X) (S := S) (k := 59) (by decide) (by decide) (by decide) (by decide)]; exact c59
  · exact by rw [evo_5 (u := u) (c := cd u) (X := X) (S := S) (k := 39) (by decide) (by decide) (by decide) (by decide)]; exact c39
  · exact by rw [evo_5 (u := u) (c := cd u) (X := X) (S := S) (k := 50) (by decide) (by decide) (by decide) (by decide)]; exact c50
  · exact by rw [evo_5 (u := u) (c := cd u) (X := X) (S := S) (k := 35) (by decide) (by decide) (by decide) (by decide)]; exact c35
  · exact by rw [evo_5 (u := u) (c := cd u) (X := X) (S := S) (k := 58) (by decide) (by decide) (by decide) (by decide)]; exact c58
  · exact fun q => by rw [evo_5 (u := u) (c := cd u) (X := X) (S := S) (k := 39) (by decide) (by decide) (by decide) (by decide)]; exact d0 (by omega)
  · exact fun _ hl => absurd hl (by omega)
  · exact fun _ hl => absurd hl (by omega)
  · exact fun _ hl => absurd hl (by omega)
  · exact fun _ hl => absurd hl (by omega)
  · exact fun _ hl => absurd hl (by omega)
  · exact fun _ hl => absurd hl (by omega)
  · exact fun _ hl => absurd hl (by omega)
  · exact fun _ hl => absurd hl (by omega)
  · exact fun _ hl => absurd hl (by omega)
  · exact fun _ hl => absurd hl (by omega)
  · exact fun _ hl => absurd hl (by omega)
  · exact fun q => by omega
  · exact by rw [evo_5 (u := u) (c := cd u) (X := X) (S := S) (k := 5) (by decide) (by decide) (by decide) (by decide)]; exact c5
theorem inv_6 {n : Nat} {cd : Nat → Nat} {u : Nat} {X : Nat → Int32} {lo Kd Ka Kn : Nat} {S : MI} (h : INV cd u X lo Kd Ka Kn S) (hn : n ≤ 20) (ft : FT n cd u X) (hc : cd u < 29) (hk : kin (cd u)) (hKd : Kd + 31 ≤ 1500) (hKa : Ka ≤ 900) (hil : isL (cd u) 6 = true) (hlo : lo ≤ 6) (gap : ∀ t, lo ≤ t → t < 6 → isL (cd u) t = false) : INV cd u X 7 Kd Ka Kn (lay_6 u (cd u) X S) := by
  obtain ⟨a0, a1, a2, a3, a4, b0, b1, b2, b3, c2, c4, c52, c53, c54, c9, c23, c43, c61, c49, c59, c39, c50, c35, c58, d0, d1, d2, d3, d4, d5, d6, d7, d8, d9, d10, d11, z, c5⟩ := h
  have gp : ∀ t, t < 6 → isL (cd u) t = true → t < lo := fun t h1 h2 => by
    rcases Nat.lt_or_ge t lo with q | q
    · exact q
    · rw [gap t q h1] at h2; cases h2
  refine ⟨?_, ?_, ?_, ?_, ?_, ?_, ?_, ?_, ?_, ?_, ?_, ?_, ?_, ?_, ?_, ?_, ?_, ?_, ?_, ?_, ?_, ?_, ?_, ?_, ?_, ?_, ?_, ?_, ?_, ?_, ?_, ?_, ?_, ?_, ?_, ?_, ?_, ?_⟩
  · exact by rw [evo_6 (u := u) (c := cd u) (X := X) (S := S) (k := 0) (by decide) (by decide) (by decide) (by decide)]; exact a0
  · exact fun _ => by rw [evo_6 (u := u) (c := cd u) (X := X) (S := S) (k := 1) (by decide) (by decide) (by decide) (by decide)]; exact a1 (gp 0 (by decide) ((show ∀ c, c < 29 → isL c 0 = true by decide) _ hc))
  · exact fun q => by rw [evo_6 (u := u) (c := cd u) (X := X) (S := S) (k := 12) (by decide) (by decide) (by decide) (by decide)]; exact a2 q
  · exact fun q => by rw [evo_6 (u := u) (c := cd u) (X := X) (S := S) (k := 46) (by decide) (by decide) (by decide) (by decide)]; exact a3 q
  · exact fun q => by rw [evo_6 (u := u) (c := cd u) (X := X) (S := S) (k := 55) (by decide) (by decide) (by decide) (by decide)]; exact a4 q
  · exact by rw [ev1_6_0]; exact (nn_one b0).mono (by omega)
  · exact fun q => by omega
  · exact by rw [ev1_6_1]; exact b2
  · exact by rw [ev1_6_3]; exact (nn_one b3).mono (by omega)
  · exact by rw [evo_6 (u := u) (c := cd u) (X := X) (S := S) (k := 2) (by decide) (by decide) (by decide) (by decide)]; exact c2
  · exact by rw [evo_6 (u := u) (c := cd u) (X := X) (S := S) (k := 4) (by decide) (by decide) (by decide) (by decide)]; exact c4
  · exact by rw [evo_6 (u := u) (c := cd u) (X := X) (S := S) (k := 52) (by decide) (by decide) (by decide) (by decide)]; exact c52
  · exact by rw [evo_6 (u := u) (c := cd u) (X := X) (S := S) (k := 53) (by decide) (by decide) (by decide) (by decide)]; exact c53
  · exact by rw [evo_6 (u := u) (c := cd u) (X := X) (S := S) (k := 54) (by decide) (by decide) (by decide) (by decide)]; exact c54
  · exact by rw [evo_6 (u := u) (c := cd u) (X := X) (S := S) (k := 9) (by decide) (by decide) (by decide) (by decide)]; exact c9
  · exact by rw [ev_6_23]; exact (ft.2.2.2.2.2.2.2.1 hil).nn
  · exact by rw [evo_6 (u := u) (c := cd u) (X := X) (S := S) (k := 43) (by decide) (by decide) (by decide) (by decide)]; exact c43
  · exact by rw [evo_6 (u := u) (c := cd u) (X := X) (S := S) (k := 61) (by decide) (by decide) (by decide) (by decide)]; exact c61
  · exact by rw [evo_6 (u := u) (c := cd u) (X := X) (S := S) (k := 49) (by decide) (by decide) (by decide) (by decide)]; exact c49
  · exact by rw [evo_6 (u := u) (c := cd u) (X := X) (S := S) (k := 59) (by decide) (by decide) (by decide) (by decide)]; exact c59
  · exact by rw [evo_6 (u := u) (c := cd u) (X := X) (S := S) (k := 39) (by decide) (by decide) (by decide) (by decide)]; exact c39
  · exact by rw [evo_6 (u := u) (c := cd u) (X := X) (S := S) (k := 50) (by decide) (by decide) (by decide) (by decide)]; exact c50
  · exact by rw [evo_6 (u := u) (c := cd u) (X := X) (S := S) (k := 35) (by decide) (by decide) (by decide) (by decide)]; exact c35
  · exact by rw [evo_6 (u := u) (c := cd u) (X := X) (S := S) (k := 58) (by decide) (by decide) (by decide) (by decide)]; exact c58
  · exact fun q => by rw [evo_6 (u := u) (c := cd u) (X := X) (S := S) (k := 39) (by decide) (by decide) (by decide) (by decide)]; exact d0 (by omega)
  · exact fun _ hl => absurd hl (by omega)
  · exact fun _ hl => absurd hl (by omega)
  · exact fun _ hl => absurd hl (by omega)
  · exact fun _ hl => absurd hl (by omega)
  · exact fun _ hl => absurd hl (by omega)
  · exact fun _ hl => absurd hl (by omega)
  · exact fun _ hl => absurd hl (by omega)
  · exact fun _ hl => absurd hl (by omega)
  · exact fun _ hl => absurd hl (by omega)
  · exact fun _ hl => absurd hl (by omega)
  · exact fun _ hl => absurd hl (by omega)
  · exact fun q => by omega
  · exact by rw [evo_6 (u := u) (c := cd u) (X := X) (S := S) (k := 5) (by decide) (by decide) (by decide) (by decide)]; exact c5
theorem inv_7 {n : Nat} {cd : Nat → Nat} {u : Nat} {X : Nat → Int32} {lo Kd Ka Kn : Nat} {S : MI} (h : INV cd u X lo Kd Ka Kn S) (hn : n ≤ 20) (ft : FT n cd u X) (hc : cd u < 29) (hk : kin (cd u)) (hKd : Kd + 31 ≤ 1500) (hKa : Ka ≤ 900) (hil : isL (cd u) 7 = true) (hlo : lo ≤ 7) (gap : ∀ t, lo ≤ t → t < 7 → isL (cd u) t = false) : INV cd u X 8 Kd Ka Kn (lay_7 u (cd u) X S) := by
  obtain ⟨a0, a1, a2, a3, a4, b0, b1, b2, b3, c2, c4, c52, c53, c54, c9, c23, c43, c61, c49, c59, c39, c50, c35, c58, d0, d1, d2, d3, d4, d5, d6, d7, d8, d9, d10, d11, z, c5⟩ := h
  have gp : ∀ t, t < 7 → isL (cd u) t = true → t < lo := fun t h1 h2 => by
    rcases Nat.lt_or_ge t lo with q | q
    · exact q
    · rw [gap t q h1] at h2; cases h2
  refine ⟨?_, ?_, ?_, ?_, ?_, ?_, ?_, ?_, ?_, ?_, ?_, ?_, ?_, ?_, ?_, ?_, ?_, ?_, ?_, ?_, ?_, ?_, ?_, ?_, ?_, ?_, ?_, ?_, ?_, ?_, ?_, ?_, ?_, ?_, ?_, ?_, ?_, ?_⟩
  · exact by rw [evo_7 (u := u) (c := cd u) (X := X) (S := S) (k := 0) (by decide)]; exact a0
  · exact fun _ => by rw [evo_7 (u := u) (c := cd u) (X := X) (S := S) (k := 1) (by decide)]; exact a1 (gp 0 (by decide) ((show ∀ c, c < 29 → isL c 0 = true by decide) _ hc))
  · exact fun q => by rw [evo_7 (u := u) (c := cd u) (X := X) (S := S) (k := 12) (by decide)]; exact a2 q
  · exact fun q => by rw [evo_7 (u := u) (c := cd u) (X := X) (S := S) (k := 46) (by decide)]; exact a3 q
  · exact fun q => by rw [evo_7 (u := u) (c := cd u) (X := X) (S := S) (k := 55) (by decide)]; exact a4 q
  · exact by rw [ev1_7_0]; exact b0.mono (by omega)
  · exact fun q => by omega
  · exact by rw [ev1_7_1]; exact b2
  · exact by rw [ev1_7_3]; exact (nn_one b3).mono (by omega)
  · exact by rw [evo_7 (u := u) (c := cd u) (X := X) (S := S) (k := 2) (by decide)]; exact c2
  · exact by rw [evo_7 (u := u) (c := cd u) (X := X) (S := S) (k := 4) (by decide)]; exact c4
  · exact by rw [evo_7 (u := u) (c := cd u) (X := X) (S := S) (k := 52) (by decide)]; exact c52
  · exact by rw [evo_7 (u := u) (c := cd u) (X := X) (S := S) (k := 53) (by decide)]; exact c53
  · exact by rw [evo_7 (u := u) (c := cd u) (X := X) (S := S) (k := 54) (by decide)]; exact c54
  · exact by rw [evo_7 (u := u) (c := cd u) (X := X) (S := S) (k := 9) (by decide)]; exact c9
  · exact by rw [evo_7 (u := u) (c := cd u) (X := X) (S := S) (k := 23) (by decide)]; exact c23
  · exact by rw [evo_7 (u := u) (c := cd u) (X := X) (S := S) (k := 43) (by decide)]; exact c43
  · exact by rw [evo_7 (u := u) (c := cd u) (X := X) (S := S) (k := 61) (by decide)]; exact c61
  · exact by rw [evo_7 (u := u) (c := cd u) (X := X) (S := S) (k := 49) (by decide)]; exact c49
  · exact by rw [evo_7 (u := u) (c := cd u) (X := X) (S := S) (k := 59) (by decide)]; exact c59
  · exact by rw [evo_7 (u := u) (c := cd u) (X := X) (S := S) (k := 39) (by decide)]; exact c39
  · exact by rw [evo_7 (u := u) (c := cd u) (X := X) (S := S) (k := 50) (by decide)]; exact c50
  · exact by rw [evo_7 (u := u) (c := cd u) (X := X) (S := S) (k := 35) (by decide)]; exact c35
  · exact by rw [evo_7 (u := u) (c := cd u) (X := X) (S := S) (k := 58) (by decide)]; exact c58
  · exact fun q => by rw [evo_7 (u := u) (c := cd u) (X := X) (S := S) (k := 39) (by decide)]; exact d0 (by omega)
  · exact fun _ hl => absurd hl (by omega)
  · exact fun _ hl => absurd hl (by omega)
  · exact fun _ hl => absurd hl (by omega)
  · exact fun _ hl => absurd hl (by omega)
  · exact fun _ hl => absurd hl (by omega)
  · exact fun _ hl => absurd hl (by omega)
  · exact fun _ hl => absurd hl (by omega)
  · exact fun _ hl => absurd hl (by omega)
  · exact fun _ hl => absurd hl (by omega)
  · exact fun _ hl => absurd hl (by omega)
  · exact fun _ hl => absurd hl (by omega)
  · exact fun q => by omega
  · exact by rw [evo_7 (u := u) (c := cd u) (X := X) (S := S) (k := 5) (by decide)]; exact c5
theorem inv_8 {n : Nat} {cd : Nat → Nat} {u : Nat} {X : Nat → Int32} {lo Kd Ka Kn : Nat} {S : MI} (h : INV cd u X lo Kd Ka Kn S) (hn : n ≤ 20) (ft : FT n cd u X) (hc : cd u < 29) (hk : kin (cd u)) (hKd : Kd + 31 ≤ 1500) (hKa : Ka ≤ 900) (hil : isL (cd u) 8 = true) (hlo : lo ≤ 8) (gap : ∀ t, lo ≤ t → t < 8 → isL (cd u) t = false) : INV cd u X 9 Kd Ka Kn (lay_8 u (cd u) X S) := by
  obtain ⟨a0, a1, a2, a3, a4, b0, b1, b2, b3, c2, c4, c52, c53, c54, c9, c23, c43, c61, c49, c59, c39, c50, c35, c58, d0, d1, d2, d3, d4, d5, d6, d7, d8, d9, d10, d11, z, c5⟩ := h
  have gp : ∀ t, t < 8 → isL (cd u) t = true → t < lo := fun t h1 h2 => by
    rcases Nat.lt_or_ge t lo with q | q
    · exact q
    · rw [gap t q h1] at h2; cases h2
  refine ⟨?_, ?_, ?_, ?_, ?_, ?_, ?_, ?_, ?_, ?_, ?_, ?_, ?_, ?_, ?_, ?_, ?_, ?_, ?_, ?_, ?_, ?_, ?_, ?_, ?_, ?_, ?_, ?_, ?_, ?_, ?_, ?_, ?_, ?_, ?_, ?_, ?_, ?_⟩
  · exact by rw [evo_8 (u := u) (c := cd u) (X := X) (S := S) (k := 0) (by decide) (by decide) (by decide)]; exact a0
  · exact fun _ => by rw [evo_8 (u := u) (c := cd u) (X := X) (S := S) (k := 1) (by decide) (by decide) (by decide)]; exact a1 (gp 0 (by decide) ((show ∀ c, c < 29 → isL c 0 = true by decide) _ hc))
  · exact fun q => by rw [evo_8 (u := u) (c := cd u) (X := X) (S := S) (k := 12) (by decide) (by decide) (by decide)]; exact a2 q
  · exact fun q => by rw [evo_8 (u := u) (c := cd u) (X := X) (S := S) (k := 46) (by decide) (by decide) (by decide)]; exact a3 q
  · exact fun q => by rw [evo_8 (u := u) (c := cd u) (X := X) (S := S) (k := 55) (by decide) (by decide) (by decide)]; exact a4 q
  · exact by rw [ev1_8_0]; exact b0.mono (by omega)
  · exact fun q => by omega
  · exact by rw [ev1_8_1]; exact b2
  · exact by rw [ev1_8_3]; exact (nn_one b3).mono (by omega)
  · exact by rw [evo_8 (u := u) (c := cd u) (X := X) (S := S) (k := 2) (by decide) (by decide) (by decide)]; exact c2
  · exact by rw [evo_8 (u := u) (c := cd u) (X := X) (S := S) (k := 4) (by decide) (by decide) (by decide)]; exact c4
  · exact by rw [evo_8 (u := u) (c := cd u) (X := X) (S := S) (k := 52) (by decide) (by decide) (by decide)]; exact c52
  · exact by rw [evo_8 (u := u) (c := cd u) (X := X) (S := S) (k := 53) (by decide) (by decide) (by decide)]; exact c53
  · exact by rw [evo_8 (u := u) (c := cd u) (X := X) (S := S) (k := 54) (by decide) (by decide) (by decide)]; exact c54
  · exact by rw [evo_8 (u := u) (c := cd u) (X := X) (S := S) (k := 9) (by decide) (by decide) (by decide)]; exact c9
  · exact by rw [evo_8 (u := u) (c := cd u) (X := X) (S := S) (k := 23) (by decide) (by decide) (by decide)]; exact c23
  · exact by rw [evo_8 (u := u) (c := cd u) (X := X) (S := S) (k := 43) (by decide) (by decide) (by decide)]; exact c43
  · exact by rw [evo_8 (u := u) (c := cd u) (X := X) (S := S) (k := 61) (by decide) (by decide) (by decide)]; exact c61
  · exact by rw [evo_8 (u := u) (c := cd u) (X := X) (S := S) (k := 49) (by decide) (by decide) (by decide)]; exact c49
  · exact by rw [evo_8 (u := u) (c := cd u) (X := X) (S := S) (k := 59) (by decide) (by decide) (by decide)]; exact c59
  · exact by rw [evo_8 (u := u) (c := cd u) (X := X) (S := S) (k := 39) (by decide) (by decide) (by decide)]; exact c39
  · exact by rw [evo_8 (u := u) (c := cd u) (X := X) (S := S) (k := 50) (by decide) (by decide) (by decide)]; exact c50
  · exact by rw [evo_8 (u := u) (c := cd u) (X := X) (S := S) (k := 35) (by decide) (by decide) (by decide)]; exact c35
  · exact by rw [evo_8 (u := u) (c := cd u) (X := X) (S := S) (k := 58) (by decide) (by decide) (by decide)]; exact c58
  · exact fun q => by rw [evo_8 (u := u) (c := cd u) (X := X) (S := S) (k := 39) (by decide) (by decide) (by decide)]; exact d0 (by omega)
  · exact fun _ hl => absurd hl (by omega)
  · exact fun _ hl => absurd hl (by omega)
  · exact fun _ hl => absurd hl (by omega)
  · exact fun _ hl => absurd hl (by omega)
  · exact fun _ hl => absurd hl (by omega)
  · exact fun q _ => ev_8_27
  · exact fun _ hl => absurd hl (by omega)
  · exact fun _ hl => absurd hl (by omega)
  · exact fun _ hl => absurd hl (by omega)
  · exact fun _ hl => absurd hl (by omega)
  · exact fun _ hl => absurd hl (by omega)
  · exact fun q => by omega
  · exact by rw [evo_8 (u := u) (c := cd u) (X := X) (S := S) (k := 5) (by decide) (by decide) (by decide)]; exact c5
theorem inv_9 {n : Nat} {cd : Nat → Nat} {u : Nat} {X : Nat → Int32} {lo Kd Ka Kn : Nat} {S : MI} (h : INV cd u X lo Kd Ka Kn S) (hn : n ≤ 20) (ft : FT n cd u X) (hc : cd u < 29) (hk : kin (cd u)) (hKd : Kd + 31 ≤ 1500) (hKa : Ka ≤ 900) (hil : isL (cd u) 9 = true) (hlo : lo ≤ 9) (gap : ∀ t, lo ≤ t → t < 9 → isL (cd u) t = false) : INV cd u X 10 Kd Ka Kn (lay_9 u (cd u) X S) := by
  obtain ⟨a0, a1, a2, a3, a4, b0, b1, b2, b3, c2, c4, c52, c53, c54, c9, c23, c43, c61, c49, c59, c39, c50, c35, c58, d0, d1, d2, d3, d4, d5, d6, d7, d8, d9, d10, d11, z, c5⟩ := h
  have gp : ∀ t, t < 9 → isL (cd u) t = true → t < lo := fun t h1 h2 => by
    rcases Nat.lt_or_ge t lo with q | q
    · exact q
    · rw [gap t q h1] at h2; cases h2
  refine ⟨?_, ?_, ?_, ?_, ?_, ?_, ?_, ?_, ?_, ?_, ?_, ?_, ?_, ?_, ?_, ?_, ?_, ?_, ?_, ?_, ?_, ?_, ?_, ?_, ?_, ?_, ?_, ?_, ?_, ?_, ?_, ?_, ?_, ?_, ?_, ?_, ?_, ?_⟩
  · exact by rw [evo_9 (u := u) (c := cd u) (X := X) (S := S) (k := 0) (by decide) (by decide) (by decide) (by decide)]; exact a0
  · exact fun _ => by rw [evo_9 (u := u) (c := cd u) (X := X) (S := S) (k := 1) (by decide) (by decide) (by decide) (by decide)]; exact a1 (gp 0 (by decide) ((show ∀ c, c < 29 → isL c 0 = true by decide) _ hc))
  · exact fun q => by rw [evo_9 (u := u) (c := cd u) (X := X) (S := S) (k := 12) (by decide) (by decide) (by decide) (by decide)]; exact a2 q
  · exact fun q => by rw [evo_9 (u := u) (c := cd u) (X := X) (S := S) (k := 46) (by decide) (by decide) (by decide) (by decide)]; exact a3 q
  · exact fun q => by rw [evo_9 (u := u) (c := cd u) (X := X) (S := S) (k := 55) (by decide) (by decide) (by decide) (by decide)]; exact a4 q
  · exact by rw [ev1_9_0]; exact (nn_one b0).mono (by omega)
  · exact fun q => by omega
  · exact by rw [ev1_9_1]; exact b2
  · exact by rw [ev1_9_3]; exact (nn_one b3).mono (by omega)
  · exact by rw [evo_9 (u := u) (c := cd u) (X := X) (S := S) (k := 2) (by decide) (by decide) (by decide) (by decide)]; exact c2
  · exact by rw [evo_9 (u := u) (c := cd u) (X := X) (S := S) (k := 4) (by decide) (by decide) (by decide) (by decide)]; exact c4
  · exact by rw [evo_9 (u := u) (c := cd u) (X := X) (S := S) (k := 52) (by decide) (by decide) (by decide) (by decide)]; exact c52
  · exact by rw [evo_9 (u := u) (c := cd u) (X := X) (S := S) (k := 53) (by decide) (by decide) (by decide) (by decide)]; exact c53
  · exact by rw [evo_9 (u := u) (c := cd u) (X := X) (S := S) (k := 54) (by decide) (by decide) (by decide) (by decide)]; exact c54
  · exact by rw [evo_9 (u := u) (c := cd u) (X := X) (S := S) (k := 9) (by decide) (by decide) (by decide) (by decide)]; exact c9
  · exact by rw [evo_9 (u := u) (c := cd u) (X := X) (S := S) (k := 23) (by decide) (by decide) (by decide) (by decide)]; exact c23
  · exact by rw [evo_9 (u := u) (c := cd u) (X := X) (S := S) (k := 43) (by decide) (by decide) (by decide) (by decide)]; exact c43
  · exact by rw [evo_9 (u := u) (c := cd u) (X := X) (S := S) (k := 61) (by decide) (by decide) (by decide) (by decide)]; exact c61
  · exact by rw [evo_9 (u := u) (c := cd u) (X := X) (S := S) (k := 49) (by decide) (by decide) (by decide) (by decide)]; exact c49
  · exact by rw [evo_9 (u := u) (c := cd u) (X := X) (S := S) (k := 59) (by decide) (by decide) (by decide) (by decide)]; exact c59
  · exact by rw [evo_9 (u := u) (c := cd u) (X := X) (S := S) (k := 39) (by decide) (by decide) (by decide) (by decide)]; exact c39
  · exact by rw [evo_9 (u := u) (c := cd u) (X := X) (S := S) (k := 50) (by decide) (by decide) (by decide) (by decide)]; exact c50
  · exact by rw [evo_9 (u := u) (c := cd u) (X := X) (S := S) (k := 35) (by decide) (by decide) (by decide) (by decide)]; exact c35
  · exact by rw [evo_9 (u := u) (c := cd u) (X := X) (S := S) (k := 58) (by decide) (by decide) (by decide) (by decide)]; exact c58
  · exact fun q => by rw [evo_9 (u := u) (c := cd u) (X := X) (S := S) (k := 39) (by decide) (by decide) (by decide) (by decide)]; exact d0 (by omega)
  · exact fun q _ => by rw [ev_9_30, q, chan14]; simp (decide := true) only [uI_same, rr0, rr1, rrk, rrj, ne_eq]; rw [d0 (by omega)]; decide
  · exact fun q _ => by rw [ev_9_31]; exact ft.2.2.2.2.2.2.2.2.2.1 q
  · exact fun _ hl => absurd hl (by omega)
  · exact fun _ hl => absurd hl (by omega)
  · exact fun _ hl => absurd hl (by omega)
  · exact fun q _ => by rw [evo_9 (u := u) (c := cd u) (X := X) (S := S) (k := 27) (by decide) (by decide) (by decide) (by decide)]; exact d6 q (gp 8 (by decide) (by rw [q]; decide))
  · exact fun _ hl => absurd hl (by omega)
  · exact fun _ hl => absurd hl (by omega)
  · exact fun _ hl => absurd hl (by omega)
  · exact fun _ hl => absurd hl (by omega)
  · exact fun _ hl => absurd hl (by omega)
  · exact fun q => by omega
  · exact by rw [evo_9 (u := u) (c := cd u) (X := X) (S := S) (k := 5) (by decide) (by decide) (by decide) (by decide)]; exact c5
theorem inv_10 {n : Nat} {cd : Nat → Nat} {u : Nat} {X : Nat → Int32} {lo Kd Ka Kn : Nat} {S : MI} (h : INV cd u X lo Kd Ka Kn S) (hn : n ≤ 20) (ft : FT n cd u X) (hc : cd u < 29) (hk : kin (cd u)) (hKd : Kd + 31 ≤ 1500) (hKa : Ka ≤ 900) (hil : isL (cd u) 10 = true) (hlo : lo ≤ 10) (gap : ∀ t, lo ≤ t → t < 10 → isL (cd u) t = false) : INV cd u X 11 Kd Ka Kn (lay_10 u (cd u) X S) := by
  obtain ⟨a0, a1, a2, a3, a4, b0, b1, b2, b3, c2, c4, c52, c53, c54, c9, c23, c43, c61, c49, c59, c39, c50, c35, c58, d0, d1, d2, d3, d4, d5, d6, d7, d8, d9, d10, d11, z, c5⟩ := h
  have gp : ∀ t, t < 10 → isL (cd u) t = true → t < lo := fun t h1 h2 => by
    rcases Nat.lt_or_ge t lo with q | q
    · exact q
    · rw [gap t q h1] at h2; cases h2
  refine ⟨?_, ?_, ?_, ?_, ?_, ?_, ?_, ?_, ?_, ?_, ?_, ?_, ?_, ?_, ?_, ?_, ?_, ?_, ?_, ?_, ?_, ?_, ?_, ?_, ?_, ?_, ?_, ?_, ?_, ?_, ?_, ?_, ?_, ?_, ?_, ?_, ?_, ?_⟩
  · exact by rw [evo_10 (u := u) (c := cd u) (X := X) (S := S) (k := 0) (by decide) (by decide) (by decide) (by decide)]; exact a0
  · exact fun _ => by rw [evo_10 (u := u) (c := cd u) (X := X) (S := S) (k := 1) (by decide) (by decide) (by decide) (by decide)]; exact a1 (gp 0 (by decide) ((show ∀ c, c < 29 → isL c 0 = true by decide) _ hc))
  · exact fun q => by rw [evo_10 (u := u) (c := cd u) (X := X) (S := S) (k := 12) (by decide) (by decide) (by decide) (by decide)]; exact a2 q
  · exact fun q => by rw [evo_10 (u := u) (c := cd u) (X := X) (S := S) (k := 46) (by decide) (by decide) (by decide) (by decide)]; exact a3 q
  · exact fun q => by rw [evo_10 (u := u) (c := cd u) (X := X) (S := S) (k := 55) (by decide) (by decide) (by decide) (by decide)]; exact a4 q
  · exact by rw [ev1_10_0]; exact b0.mono (by omega)
  · exact fun q => by omega
  · exact by rw [ev1_10_1]; exact b2
  · exact by rw [ev1_10_3]; exact (nn_one b3).mono (by omega)
  · exact by rw [evo_10 (u := u) (c := cd u) (X := X) (S := S) (k := 2) (by decide) (by decide) (by decide) (by decide)]; exact c2
  · exact by rw [evo_10 (u := u) (c := cd u) (X := X) (S := S) (k := 4) (by decide) (by decide) (by decide) (by decide)]; exact c4
  · exact by rw [evo_10 (u := u) (c := cd u) (X := X) (S := S) (k := 52) (by decide) (by decide) (by decide) (by decide)]; exact c52
  · exact by rw [evo_10 (u := u) (c := cd u) (X := X) (S := S) (k := 53) (by decide) (by decide) (by decide) (by decide)]; exact c53
  · exact by rw [evo_10 (u := u) (c := cd u) (X := X) (S := S) (k := 54) (by decide) (by decide) (by decide) (by decide)]; exact c54
  · exact by rw [evo_10 (u := u) (c := cd u) (X := X) (S := S) (k := 9) (by decide) (by decide) (by decide) (by decide)]; exact c9
  · exact by rw [evo_10 (u := u) (c := cd u) (X := X) (S := S) (k := 23) (by decide) (by decide) (by decide) (by decide)]; exact c23
  · exact by rw [evo_10 (u := u) (c := cd u) (X := X) (S := S) (k := 43) (by decide) (by decide) (by decide) (by decide)]; exact c43
  · exact by rw [evo_10 (u := u) (c := cd u) (X := X) (S := S) (k := 61) (by decide) (by decide) (by decide) (by decide)]; exact c61
  · exact by rw [evo_10 (u := u) (c := cd u) (X := X) (S := S) (k := 49) (by decide) (by decide) (by decide) (by decide)]; exact c49
  · exact by rw [evo_10 (u := u) (c := cd u) (X := X) (S := S) (k := 59) (by decide) (by decide) (by decide) (by decide)]; exact c59
  · exact by rw [evo_10 (u := u) (c := cd u) (X := X) (S := S) (k := 39) (by decide) (by decide) (by decide) (by decide)]; exact c39
  · exact by rw [evo_10 (u := u) (c := cd u) (X := X) (S := S) (k := 50) (by decide) (by decide) (by decide) (by decide)]; exact c50
  · exact by rw [ev_10_35]; exact ft.2.2.2.2.2.2.2.2.2.2.1 hil
  · exact by rw [evo_10 (u := u) (c := cd u) (X := X) (S := S) (k := 58) (by decide) (by decide) (by decide) (by decide)]; exact c58
  · exact fun q => by rw [evo_10 (u := u) (c := cd u) (X := X) (S := S) (k := 39) (by decide) (by decide) (by decide) (by decide)]; exact d0 (by omega)
  · exact fun q _ => (show False by rw [q] at hil; exact absurd hil (by decide)).elim
  · exact fun q _ => by rw [evo_10 (u := u) (c := cd u) (X := X) (S := S) (k := 31) (by decide) (by decide) (by decide) (by decide)]; exact d2 q (gp 9 (by decide) q)
  · exact fun _ hl => absurd hl (by omega)
  · exact fun _ hl => absurd hl (by omega)
  · exact fun _ hl => absurd hl (by omega)
  · exact fun q _ => by rw [evo_10 (u := u) (c := cd u) (X := X) (S := S) (k := 27) (by decide) (by decide) (by decide) (by decide)]; exact d6 q (gp 8 (by decide) (by rw [q]; decide))
  · exact fun _ hl => absurd hl (by omega)
  · exact fun _ hl => absurd hl (by omega)
  · exact fun _ hl => absurd hl (by omega)
  · exact fun _ hl => absurd hl (by omega)
  · exact fun _ hl => absurd hl (by omega)
  · exact fun q => by omega
  · exact by rw [evo_10 (u := u) (c := cd u) (X := X) (S := S) (k := 5) (by decide) (by decide) (by decide) (by decide)]; exact c5
theorem inv_11 {n : Nat} {cd : Nat → Nat} {u : Nat} {X : Nat → Int32} {lo Kd Ka Kn : Nat} {S : MI} (h : INV cd u X lo Kd Ka Kn S) (hn : n ≤ 20) (ft : FT n cd u X) (hc : cd u < 29) (hk : kin (cd u)) (hKd : Kd + 31 ≤ 1500) (hKa : Ka ≤ 900) (hil : isL (cd u) 11 = true) (hlo : lo ≤ 11) (gap : ∀ t, lo ≤ t → t < 11 → isL (cd u) t = false) : INV cd u X 12 Kd Ka Kn (lay_11 u (cd u) X S) := by
  obtain ⟨a0, a1, a2, a3, a4, b0, b1, b2, b3, c2, c4, c52, c53, c54, c9, c23, c43, c61, c49, c59, c39, c50, c35, c58, d0, d1, d2, d3, d4, d5, d6, d7, d8, d9, d10, d11, z, c5⟩ := h
  have gp : ∀ t, t < 11 → isL (cd u) t = true → t < lo := fun t h1 h2 => by
    rcases Nat.lt_or_ge t lo with q | q
    · exact q
    · rw [gap t q h1] at h2; cases h2
  refine ⟨?_, ?_, ?_, ?_, ?_, ?_, ?_, ?_, ?_, ?_, ?_, ?_, ?_, ?_, ?_, ?_, ?_, ?_, ?_, ?_, ?_, ?_, ?_, ?_, ?_, ?_, ?_, ?_, ?_, ?_, ?_, ?_, ?_, ?_, ?_, ?_, ?_, ?_⟩
  · exact by rw [evo_11 (u := u) (c := cd u) (X := X) (S := S) (k := 0) (by decide) (by decide) (by decide) (by decide)]; exact a0
  · exact fun _ => by rw [evo_11 (u := u) (c := cd u) (X := X) (S := S) (k := 1) (by decide) (by decide) (by decide) (by decide)]; exact a1 (gp 0 (by decide) ((show ∀ c, c < 29 → isL c 0 = true by decide) _ hc))
  · exact fun q => by rw [evo_11 (u := u) (c := cd u) (X := X) (S := S) (k := 12) (by decide) (by decide) (by decide) (by decide)]; exact a2 q
  · exact fun q => by rw [evo_11 (u := u) (c := cd u) (X := X) (S := S) (k := 46) (by decide) (by decide) (by decide) (by decide)]; exact a3 q
  · exact fun q => by rw [evo_11 (u := u) (c := cd u) (X := X) (S := S) (k := 55) (by decide) (by decide) (by decide) (by decide)]; exact a4 q
  · exact by rw [ev1_11_0]; exact (nn_one b0).mono (by omega)
  · exact fun q => by omega
  · exact by rw [ev1_11_1]; exact b2
  · exact by rw [ev1_11_3]; exact (nn_one b3).mono (by omega)
  · exact by rw [evo_11 (u := u) (c := cd u) (X := X) (S := S) (k := 2) (by decide) (by decide) (by decide) (by decide)]; exact c2
  · exact by rw [evo_11 (u := u) (c := cd u) (X := X) (S := S) (k := 4) (by decide) (by decide) (by decide) (by decide)]; exact c4
  · exact by rw [evo_11 (u := u) (c := cd u) (X := X) (S := S) (k := 52) (by decide) (by decide) (by decide) (by decide)]; exact c52
  · exact by rw [evo_11 (u := u) (c := cd u) (X := X) (S := S) (k := 53) (by decide) (by decide) (by decide) (by decide)]; exact c53
  · exact by rw [evo_11 (u := u) (c := cd u) (X := X) (S := S) (k := 54) (by decide) (by decide) (by decide) (by decide)]; exact c54
  · exact by rw [evo_11 (u := u) (c := cd u) (X := X) (S := S) (k := 9) (by decide) (by decide) (by decide) (by decide)]; exact c9
  · exact by rw [evo_11 (u := u) (c := cd u) (X := X) (S := S) (k := 23) (by decide) (by decide) (by decide) (by decide)]; exact c23
  · exact by rw [evo_11 (u := u) (c := cd u) (X := X) (S := S) (k := 43) (by decide) (by decide) (by decide) (by decide)]; exact c43
  · exact by rw [evo_11 (u := u) (c := cd u) (X := X) (S := S) (k := 61) (by decide) (by decide) (by decide) (by decide)]; exact c61
  · exact by rw [evo_11 (u := u) (c := cd u) (X := X) (S := S) (k := 49) (by decide) (by decide) (by decide) (by decide)]; exact c49
  · exact by rw [evo_11 (u := u) (c := cd u) (X := X) (S := S) (k := 59) (by decide) (by decide) (by decide) (by decide)]; exact c59
  · exact by rw [evo_11 (u := u) (c := cd u) (X := X) (S := S) (k := 39) (by decide) (by decide) (by decide) (by decide)]; exact c39
  · exact by rw [evo_11 (u := u) (c := cd u) (X := X) (S := S) (k := 50) (by decide) (by decide) (by decide) (by decide)]; exact c50
  · exact by rw [evo_11 (u := u) (c := cd u) (X := X) (S := S) (k := 35) (by decide) (by decide) (by decide) (by decide)]; exact c35
  · exact by rw [evo_11 (u := u) (c := cd u) (X := X) (S := S) (k := 58) (by decide) (by decide) (by decide) (by decide)]; exact c58
  · exact fun q => by rw [evo_11 (u := u) (c := cd u) (X := X) (S := S) (k := 39) (by decide) (by decide) (by decide) (by decide)]; exact d0 (by omega)
  · exact fun q _ => (show False by rw [q] at hil; exact absurd hil (by decide)).elim
  · exact fun q _ => by rw [evo_11 (u := u) (c := cd u) (X := X) (S := S) (k := 31) (by decide) (by decide) (by decide) (by decide)]; exact d2 q (gp 9 (by decide) q)
  · exact fun _ hl => absurd hl (by omega)
  · exact fun _ hl => absurd hl (by omega)
  · exact fun _ hl => absurd hl (by omega)
  · exact fun q _ => by rw [evo_11 (u := u) (c := cd u) (X := X) (S := S) (k := 27) (by decide) (by decide) (by decide) (by decide)]; exact d6 q (gp 8 (by decide) (by rw [q]; decide))
  · exact fun _ hl => absurd hl (by omega)
  · exact fun _ hl => absurd hl (by omega)
  · exact fun _ hl => absurd hl (by omega)
  · exact fun _ hl => absurd hl (by omega)
  · exact fun _ hl => absurd hl (by omega)
  · exact fun q => by omega
  · exact by rw [evo_11 (u := u) (c := cd u) (X := X) (S := S) (k := 5) (by decide) (by decide) (by decide) (by decide)]; exact c5
theorem inv_12 {n : Nat} {cd : Nat → Nat} {u : Nat} {X : Nat → Int32} {lo Kd Ka Kn : Nat} {S : MI} (h : INV cd u X lo Kd Ka Kn S) (hn : n ≤ 20) (ft : FT n cd u X) (hc : cd u < 29) (hk : kin (cd u)) (hKd : Kd + 31 ≤ 1500) (hKa : Ka ≤ 900) (hil : isL (cd u) 12 = true) (hlo : lo ≤ 12) (gap : ∀ t, lo ≤ t → t < 12 → isL (cd u) t = false) : INV cd u X 13 Kd Ka Kn (lay_12 u (cd u) X S) := by
  obtain ⟨a0, a1, a2, a3, a4, b0, b1, b2, b3, c2, c4, c52, c53, c54, c9, c23, c43, c61, c49, c59, c39, c50, c35, c58, d0, d1, d2, d3, d4, d5, d6, d7, d8, d9, d10, d11, z, c5⟩ := h
  have gp : ∀ t, t < 12 → isL (cd u) t = true → t < lo := fun t h1 h2 => by
    rcases Nat.lt_or_ge t lo with q | q
    · exact q
    · rw [gap t q h1] at h2; cases h2
  refine ⟨?_, ?_, ?_, ?_, ?_, ?_, ?_, ?_, ?_, ?_, ?_, ?_, ?_, ?_, ?_, ?_, ?_, ?_, ?_, ?_, ?_, ?_, ?_, ?_, ?_, ?_, ?_, ?_, ?_, ?_, ?_, ?_, ?_, ?_, ?_, ?_, ?_, ?_⟩
  · exact by rw [evo_12 (u := u) (c := cd u) (X := X) (S := S) (k := 0) (by decide)]; exact a0
  · exact fun _ => by rw [evo_12 (u := u) (c := cd u) (X := X) (S := S) (k := 1) (by decide)]; exact a1 (gp 0 (by decide) ((show ∀ c, c < 29 → isL c 0 = true by decide) _ hc))
  · exact fun q => by rw [evo_12 (u := u) (c := cd u) (X := X) (S := S) (k := 12) (by decide)]; exact a2 q
  · exact fun q => by rw [evo_12 (u := u) (c := cd u) (X := X) (S := S) (k := 46) (by decide)]; exact a3 q
  · exact fun q => by rw [evo_12 (u := u) (c := cd u) (X := X) (S := S) (k := 55) (by decide)]; exact a4 q
  · exact by rw [ev1_12_0]; exact b0.mono (by omega)
  · exact fun q => by omega
  · exact by rw [ev1_12_1]; exact b2
  · exact by rw [ev1_12_3]; exact (nn_one b3).mono (by omega)
  · exact by rw [evo_12 (u := u) (c := cd u) (X := X) (S := S) (k := 2) (by decide)]; exact c2
  · exact by rw [evo_12 (u := u) (c := cd u) (X := X) (S := S) (k := 4) (by decide)]; exact c4
  · exact by rw [evo_12 (u := u) (c := cd u) (X := X) (S := S) (k := 52) (by decide)]; exact c52
  · exact by rw [evo_12 (u := u) (c := cd u) (X := X) (S := S) (k := 53) (by decide)]; exact c53
  · exact by rw [evo_12 (u := u) (c := cd u) (X := X) (S := S) (k := 54) (by decide)]; exact c54
  · exact by rw [evo_12 (u := u) (c := cd u) (X := X) (S := S) (k := 9) (by decide)]; exact c9
  · exact by rw [evo_12 (u := u) (c := cd u) (X := X) (S := S) (k := 23) (by decide)]; exact c23
  · exact by rw [evo_12 (u := u) (c := cd u) (X := X) (S := S) (k := 43) (by decide)]; exact c43
  · exact by rw [evo_12 (u := u) (c := cd u) (X := X) (S := S) (k := 61) (by decide)]; exact c61
  · exact by rw [evo_12 (u := u) (c := cd u) (X := X) (S := S) (k := 49) (by decide)]; exact c49
  · exact by rw [evo_12 (u := u) (c := cd u) (X := X) (S := S) (k := 59) (by decide)]; exact c59
  · exact by rw [evo_12 (u := u) (c := cd u) (X := X) (S := S) (k := 39) (by decide)]; exact c39
  · exact by rw [evo_12 (u := u) (c := cd u) (X := X) (S := S) (k := 50) (by decide)]; exact c50
  · exact by rw [evo_12 (u := u) (c := cd u) (X := X) (S := S) (k := 35) (by decide)]; exact c35
  · exact by rw [evo_12 (u := u) (c := cd u) (X := X) (S := S) (k := 58) (by decide)]; exact c58
  · exact fun q => by rw [evo_12 (u := u) (c := cd u) (X := X) (S := S) (k := 39) (by decide)]; exact d0 (by omega)
  · exact fun q _ => by rw [evo_12 (u := u) (c := cd u) (X := X) (S := S) (k := 30) (by decide)]; exact d1 q (gp 9 (by decide) (by rw [q]; decide))
  · exact fun q _ => by rw [evo_12 (u := u) (c := cd u) (X := X) (S := S) (k := 31) (by decide)]; exact d2 q (gp 9 (by decide) q)
  · exact fun _ hl => absurd hl (by omega)
  · exact fun _ hl => absurd hl (by omega)
  · exact fun _ hl => absurd hl (by omega)
  · exact fun q _ => by rw [evo_12 (u := u) (c := cd u) (X := X) (S := S) (k := 27) (by decide)]; exact d6 q (gp 8 (by decide) (by rw [q]; decide))
  · exact fun _ hl => absurd hl (by omega)
  · exact fun _ hl => absurd hl (by omega)
  · exact fun _ hl => absurd hl (by omega)
  · exact fun _ hl => absurd hl (by omega)
  · exact fun _ hl => absurd hl (by omega)
  · exact fun q => by omega
  · exact by rw [evo_12 (u := u) (c := cd u) (X := X) (S := S) (k := 5) (by decide)]; exact c5
theorem inv_13 {n : Nat} {cd : Nat → Nat} {u : Nat} {X : Nat → Int32} {lo Kd Ka Kn : Nat} {S : MI} (h : INV cd u X lo Kd Ka Kn S) (hn : n ≤ 20) (ft : FT n cd u X) (hc : cd u < 29) (hk : kin (cd u)) (hKd : Kd + 31 ≤ 1500) (hKa : Ka ≤ 900) (hil : isL (cd u) 13 = true) (hlo : lo ≤ 13) (gap : ∀ t, lo ≤ t → t < 13 → isL (cd u) t = false) : INV cd u X 14 Kd Ka Kn (lay_13 u (cd u) X S) := by
  obtain ⟨a0, a1, a2, a3, a4, b0, b1, b2, b3, c2, c4, c52, c53, c54, c9, c23, c43, c61, c49, c59, c39, c50, c35, c58, d0, d1, d2, d3, d4, d5, d6, d7, d8, d9, d10, d11, z, c5⟩ := h
  have gp : ∀ t, t < 13 → isL (cd u) t = true → t < lo := fun t h1 h2 => by
    rcases Nat.lt_or_ge t lo with q | q
    · exact q
    · rw [gap t q h1] at h2; cases h2
  refine ⟨?_, ?_, ?_, ?_, ?_, ?_, ?_, ?_, ?_, ?_, ?_, ?_, ?_, ?_, ?_, ?_, ?_, ?_, ?_, ?_, ?_, ?_, ?_, ?_, ?_, ?_, ?_, ?_, ?_, ?_, ?_, ?_, ?_, ?_, ?_, ?_, ?_, ?_⟩
  · exact by rw [evo_13 (u := u) (c := cd u) (X := X) (S := S) (k := 0) (by decide) (by decide)]; exact a0
  · exact fun _ => by rw [evo_13 (u := u) (c := cd u) (X := X) (S := S) (k := 1) (by decide) (by decide)]; exact a1 (gp 0 (by decide) ((show ∀ c, c < 29 → isL c 0 = true by decide) _ hc))
  · exact fun q => by rw [evo_13 (u := u) (c := cd u) (X := X) (S := S) (k := 12) (by decide) (by decide)]; exact a2 q
  · exact fun q => by rw [evo_13 (u := u) (c := cd u) (X := X) (S := S) (k := 46) (by decide) (by decide)]; exact a3 q
  · exact fun q => by rw [evo_13 (u := u) (c := cd u) (X := X) (S := S) (k := 55) (by decide) (by decide)]; exact a4 q
  · exact by rw [ev1_13_0]; exact b0.mono (by omega)
  · exact fun q => by omega
  · exact by rw [ev1_13_1]; exact b2
  · exact by rw [ev1_13_3]; exact (nn_one b3).mono (by omega)
  · exact by rw [evo_13 (u := u) (c := cd u) (X := X) (S := S) (k := 2) (by decide) (by decide)]; exact c2
  · exact by rw [evo_13 (u := u) (c := cd u) (X := X) (S := S) (k := 4) (by decide) (by decide)]; exact c4
  · exact by rw [evo_13 (u := u) (c := cd u) (X := X) (S := S) (k := 52) (by decide) (by decide)]; exact c52
  · exact by rw [evo_13 (u := u) (c := cd u) (X := X) (S := S) (k := 53) (by decide) (by decide)]; exact c53
  · exact by rw [evo_13 (u := u) (c := cd u) (X := X) (S := S) (k := 54) (by decide) (by decide)]; exact c54
  · exact by rw [evo_13 (u := u) (c := cd u) (X := X) (S := S) (k := 9) (by decide) (by decide)]; exact c9
  · exact by rw [evo_13 (u := u) (c := cd u) (X := X) (S := S) (k := 23) (by decide) (by decide)]; exact c23
  · exact by rw [evo_13 (u := u) (c := cd u) (X := X) (S := S) (k := 43) (by decide) (by decide)]; exact c43
  · exact by rw [evo_13 (u := u) (c := cd u) (X := X) (S := S) (k := 61) (by decide) (by decide)]; exact c61
  · exact by rw [evo_13 (u := u) (c := cd u) (X := X) (S := S) (k := 49) (by decide) (by decide)]; exact c49
  · exact by rw [evo_13 (u := u) (c := cd u) (X := X) (S := S) (k := 59) (by decide) (by decide)]; exact c59
  · exact by rw [evo_13 (u := u) (c := cd u) (X := X) (S := S) (k := 39) (by decide) (by decide)]; exact c39
  · exact by rw [evo_13 (u := u) (c := cd u) (X := X) (S := S) (k := 50) (by decide) (by decide)]; exact c50
  · exact by rw [evo_13 (u := u) (c := cd u) (X := X) (S := S) (k := 35) (by decide) (by decide)]; exact c35
  · exact by rw [evo_13 (u := u) (c := cd u) (X := X) (S := S) (k := 58) (by decide) (by decide)]; exact c58
  · exact fun q => by rw [evo_13 (u := u) (c := cd u) (X := X) (S := S) (k := 39) (by decide) (by decide)]; exact d0 (by omega)
  · exact fun q _ => by rw [evo_13 (u := u) (c := cd u) (X := X) (S := S) (k := 30) (by decide) (by decide)]; exact d1 q (gp 9 (by decide) (by rw [q]; decide))
  · exact fun q _ => by rw [evo_13 (u := u) (c := cd u) (X := X) (S := S) (k := 31) (by decide) (by decide)]; exact d2 q (gp 9 (by decide) q)
  · exact fun _ hl => absurd hl (by omega)
  · exact fun _ hl => absurd hl (by omega)
  · exact fun _ hl => absurd hl (by omega)
  · exact fun q _ => (show False by rw [q] at hil; exact absurd hil (by decide)).elim
  · exact fun q _ => ev_13_27
  · exact fun _ hl => absurd hl (by omega)
  · exact fun _ hl => absurd hl (by omega)
  · exact fun _ hl => absurd hl (by omega)
  · exact fun _ hl => absurd hl (by omega)
  · exact fun q => by omega
  · exact by rw [evo_13 (u := u) (c := cd u) (X := X) (S := S) (k := 5) (by decide) (by decide)]; exact c5
theorem inv_14 {n : Nat} {cd : Nat → Nat} {u : Nat} {X : Nat → Int32} {lo Kd Ka Kn : Nat} {S : MI} (h : INV cd u X lo Kd Ka Kn S) (hn : n ≤ 20) (ft : FT n cd u X) (hc : cd u < 29) (hk : kin (cd u)) (hKd : Kd + 31 ≤ 1500) (hKa : Ka ≤ 900) (hil : isL (cd u) 14 = true) (hlo : lo ≤ 14) (gap : ∀ t, lo ≤ t → t < 14 → isL (cd u) t = false) : INV cd u X 15 Kd Ka Kn (lay_14 u (cd u) X S) := by
  obtain ⟨a0, a1, a2, a3, a4, b0, b1, b2, b3, c2, c4, c52, c53, c54, c9, c23, c43, c61, c49, c59, c39, c50, c35, c58, d0, d1, d2, d3, d4, d5, d6, d7, d8, d9, d10, d11, z, c5⟩ := h
  have gp : ∀ t, t < 14 → isL (cd u) t = true → t < lo := fun t h1 h2 => by
    rcases Nat.lt_or_ge t lo with q | q
    · exact q
    · rw [gap t q h1] at h2; cases h2
  have h14 : cd u = 14 := (show ∀ c, c < 29 → isL c 14 = true → c = 14 by decide) _ hc hil
  refine ⟨?_, ?_, ?_, ?_, ?_, ?_, ?_, ?_, ?_, ?_, ?_, ?_, ?_, ?_, ?_, ?_, ?_, ?_, ?_, ?_, ?_, ?_, ?_, ?_, ?_, ?_, ?_, ?_, ?_, ?_, ?_, ?_, ?_, ?_, ?_, ?_, ?_, ?_⟩
  · exact by rw [evo_14 (u := u) (c := cd u) (X := X) (S := S) (k := 0) (by decide) (by decide) (by decide)]; exact a0
  · exact fun _ => by rw [evo_14 (u := u) (c := cd u) (X := X) (S := S) (k := 1) (by decide) (by decide) (by decide)]; exact a1 (gp 0 (by decide) ((show ∀ c, c < 29 → isL c 0 = true by decide) _ hc))
  · exact fun q => by rw [evo_14 (u := u) (c := cd u) (X := X) (S := S) (k := 12) (by decide) (by decide) (by decide)]; exact a2 q
  · exact fun q => by rw [evo_14 (u := u) (c := cd u) (X := X) (S := S) (k := 46) (by decide) (by decide) (by decide)]; exact a3 q
  · exact fun q => by rw [evo_14 (u := u) (c := cd u) (X := X) (S := S) (k := 55) (by decide) (by decide) (by decide)]; exact a4 q
  · exact by rw [ev1_14_0]; exact (nn_one b0).mono (by omega)
  · exact fun q => by omega
  · exact by rw [ev1_14_1]; exact b2
  · exact by rw [ev1_14_3]; exact (nn_one b3).mono (by omega)
  · exact by rw [evo_14 (u := u) (c := cd u) (X := X) (S := S) (k := 2) (by decide) (by decide) (by decide)]; exact c2
  · exact by rw [evo_14 (u := u) (c := cd u) (X := X) (S := S) (k := 4) (by decide) (by decide) (by decide)]; exact c4
  · exact by rw [evo_14 (u := u) (c := cd u) (X := X) (S := S) (k := 52) (by decide) (by decide) (by decide)]; exact c52
  · exact by rw [evo_14 (u := u) (c := cd u) (X := X) (S := S) (k := 53) (by decide) (by decide) (by decide)]; exact c53
  · exact by rw [evo_14 (u := u) (c := cd u) (X := X) (S := S) (k := 54) (by decide) (by decide) (by decide)]; exact c54
  · exact by rw [evo_14 (u := u) (c := cd u) (X := X) (S := S) (k := 9) (by decide) (by decide) (by decide)]; exact c9
  · exact by rw [evo_14 (u := u) (c := cd u) (X := X) (S := S) (k := 23) (by decide) (by decide) (by decide)]; exact c23
  · exact by rw [evo_14 (u := u) (c := cd u) (X := X) (S := S) (k := 43) (by decide) (by decide) (by decide)]; exact c43
  · exact by rw [evo_14 (u := u) (c := cd u) (X := X) (S := S) (k := 61) (by decide) (by decide) (by decide)]; exact c61
  · exact by rw [evo_14 (u := u) (c := cd u) (X := X) (S := S) (k := 49) (by decide) (by decide) (by decide)]; exact c49
  · exact by rw [evo_14 (u := u) (c := cd u) (X := X) (S := S) (k := 59) (by decide) (by decide) (by decide)]; exact c59
  · exact by rw [ev_14_39]; exact (by rw [d1 h14 (gp 9 (by decide) (by rw [h14]; decide))]; exact (nn_add (⟨3, by decide, rfl⟩ : nn 3 3) (nn_iR (d := 3) (((nn_one b0).mono (by omega) : nn (S 1 0 + 1) 2000000000)) (by decide) (by decide))).mono (by decide))
  · exact by rw [evo_14 (u := u) (c := cd u) (X := X) (S := S) (k := 50) (by decide) (by decide) (by decide)]; exact c50
  · exact by rw [evo_14 (u := u) (c := cd u) (X := X) (S := S) (k := 35) (by decide) (by decide) (by decide)]; exact c35
  · exact by rw [evo_14 (u := u) (c := cd u) (X := X) (S := S) (k := 58) (by decide) (by decide) (by decide)]; exact c58
  · exact fun q => by omega
  · exact fun q _ => by rw [evo_14 (u := u) (c := cd u) (X := X) (S := S) (k := 30) (by decide) (by decide) (by decide)]; exact d1 q (gp 9 (by decide) (by rw [q]; decide))
  · exact fun q _ => by rw [evo_14 (u := u) (c := cd u) (X := X) (S := S) (k := 31) (by decide) (by decide) (by decide)]; exact d2 q (gp 9 (by decide) q)
  · exact fun _ hl => absurd hl (by omega)
  · exact fun _ hl => absurd hl (by omega)
  · exact fun _ hl => absurd hl (by omega)
  · exact fun q _ => (show False by rw [q] at hil; exact absurd hil (by decide)).elim
  · exact fun q _ => (show False by rw [q] at hil; exact absurd hil (by decide)).elim
  · exact fun q _ => ev_14_27
  · exact fun _ hl => absurd hl (by omega)
  · exact fun _ hl => absurd hl (by omega)
  · exact fun _ hl => absurd hl (by omega)
  · exact fun q => by omega
  · exact by rw [evo_14 (u := u) (c := cd u) (X := X) (S := S) (k := 5) (by decide) (by decide) (by decide)]; exact c5
theorem inv_15 {n : Nat} {cd : Nat → Nat} {u : Nat} {X : Nat → Int32} {lo Kd Ka Kn : Nat} {S : MI} (h : INV cd u X lo Kd Ka Kn S) (hn : n ≤ 20) (ft : FT n cd u X) (hc : cd u < 29) (hk : kin (cd u)) (hKd : Kd + 31 ≤ 1500) (hKa : Ka ≤ 900) (hil : isL (cd u) 15 = true) (hlo : lo ≤ 15) (gap : ∀ t, lo ≤ t → t < 15 → isL (cd u) t = false) : INV cd u X 16 Kd Ka Kn (lay_15 u (cd u) X S) := by
  obtain ⟨a0, a1, a2, a3, a4, b0, b1, b2, b3, c2, c4, c52, c53, c54, c9, c23, c43, c61, c49, c59, c39, c50, c35, c58, d0, d1, d2, d3, d4, d5, d6, d7, d8, d9, d10, d11, z, c5⟩ := h
  have gp : ∀ t, t < 15 → isL (cd u) t = true → t < lo := fun t h1 h2 => by
    rcases Nat.lt_or_ge t lo with q | q
    · exact q
    · rw [gap t q h1] at h2; cases h2
  refine ⟨?_, ?_, ?_, ?_, ?_, ?_, ?_, ?_, ?_, ?_, ?_, ?_, ?_, ?_, ?_, ?_, ?_, ?_, ?_, ?_, ?_, ?_, ?_, ?_, ?_, ?_, ?_, ?_, ?_, ?_, ?_, ?_, ?_, ?_, ?_, ?_, ?_, ?_⟩
  · exact by rw [evo_15 (u := u) (c := cd u) (X := X) (S := S) (k := 0) (by decide) (by decide) (by decide)]; exact a0
  · exact fun _ => by rw [evo_15 (u := u) (c := cd u) (X := X) (S := S) (k := 1) (by decide) (by decide) (by decide)]; exact a1 (gp 0 (by decide) ((show ∀ c, c < 29 → isL c 0 = true by decide) _ hc))
  · exact fun q => by rw [evo_15 (u := u) (c := cd u) (X := X) (S := S) (k := 12) (by decide) (by decide) (by decide)]; exact a2 q
  · exact fun q => by rw [evo_15 (u := u) (c := cd u) (X := X) (S := S) (k := 46) (by decide) (by decide) (by decide)]; exact a3 q
  · exact fun q => by rw [evo_15 (u := u) (c := cd u) (X := X) (S := S) (k := 55) (by decide) (by decide) (by decide)]; exact a4 q
  · exact by rw [ev1_15_0]; exact b0.mono (by omega)
  · exact fun q => by omega
  · exact by rw [ev1_15_1]; exact b2
  · exact by rw [ev1_15_3]; exact (nn_one b3).mono (by omega)
  · exact by rw [evo_15 (u := u) (c := cd u) (X := X) (S := S) (k := 2) (by decide) (by decide) (by decide)]; exact c2
  · exact by rw [evo_15 (u := u) (c := cd u) (X := X) (S := S) (k := 4) (by decide) (by decide) (by decide)]; exact c4
  · exact by rw [evo_15 (u := u) (c := cd u) (X := X) (S := S) (k := 52) (by decide) (by decide) (by decide)]; exact c52
  · exact by rw [evo_15 (u := u) (c := cd u) (X := X) (S := S) (k := 53) (by decide) (by decide) (by decide)]; exact c53
  · exact by rw [evo_15 (u := u) (c := cd u) (X := X) (S := S) (k := 54) (by decide) (by decide) (by decide)]; exact c54
  · exact by rw [evo_15 (u := u) (c := cd u) (X := X) (S := S) (k := 9) (by decide) (by decide) (by decide)]; exact c9
  · exact by rw [evo_15 (u := u) (c := cd u) (X := X) (S := S) (k := 23) (by decide) (by decide) (by decide)]; exact c23
  · exact by rw [evo_15 (u := u) (c := cd u) (X := X) (S := S) (k := 43) (by decide) (by decide) (by decide)]; exact c43
  · exact by rw [evo_15 (u := u) (c := cd u) (X := X) (S := S) (k := 61) (by decide) (by decide) (by decide)]; exact c61
  · exact by rw [evo_15 (u := u) (c := cd u) (X := X) (S := S) (k := 49) (by decide) (by decide) (by decide)]; exact c49
  · exact by rw [evo_15 (u := u) (c := cd u) (X := X) (S := S) (k := 59) (by decide) (by decide) (by decide)]; exact c59
  · exact by rw [evo_15 (u := u) (c := cd u) (X := X) (S := S) (k := 39) (by decide) (by decide) (by decide)]; exact c39
  · exact by rw [evo_15 (u := u) (c := cd u) (X := X) (S := S) (k := 50) (by decide) (by decide) (by decide)]; exact c50
  · exact by rw [ev_15_35]; exact ft.2.2.2.2.2.2.2.2.2.2.2.2.2.1 hil
  · exact by rw [evo_15 (u := u) (c := cd u) (X := X) (S := S) (k := 58) (by decide) (by decide) (by decide)]; exact c58
  · exact fun q => by omega
  · exact fun q _ => by rw [evo_15 (u := u) (c := cd u) (X := X) (S := S) (k := 30) (by decide) (by decide) (by decide)]; exact d1 q (gp 9 (by decide) (by rw [q]; decide))
  · exact fun q _ => by rw [evo_15 (u := u) (c := cd u) (X := X) (S := S) (k := 31) (by decide) (by decide) (by decide)]; exact d2 q (gp 9 (by decide) q)
  · exact fun _ hl => absurd hl (by omega)
  · exact fun _ hl => absurd hl (by omega)
  · exact fun _ hl => absurd hl (by omega)
  · exact fun q _ => by rw [evo_15 (u := u) (c := cd u) (X := X) (S := S) (k := 27) (by decide) (by decide) (by decide)]; exact d6 q (gp 8 (by decide) (by rw [q]; decide))
  · exact fun q _ => by rw [evo_15 (u := u) (c := cd u) (X := X) (S := S) (k := 27) (by decide) (by decide) (by decide)]; exact d7 q (gp 13 (by decide) (by rw [q]; decide))
  · exact fun q _ => by rw [evo_15 (u := u) (c := cd u) (X := X) (S := S) (k := 27) (by decide) (by decide) (by decide)]; exact d8 q (gp 14 (by decide) (by rw [q]; decide))
  · exact fun _ hl => absurd hl (by omega)
  · exact fun _ hl => absurd hl (by omega)
  · exact fun _ hl => absurd hl (by omega)
  · exact fun q => by omega
  · exact by rw [evo_15 (u := u) (c := cd u) (X := X) (S := S) (k := 5) (by decide) (by decide) (by decide)]; exact c5
theorem inv_16 {n : Nat} {cd : Nat → Nat} {u : Nat} {X : Nat → Int32} {lo Kd Ka Kn : Nat} {S : MI} (h : INV cd u X lo Kd Ka Kn S) (hn : n ≤ 20) (ft : FT n cd u X) (hc : cd u < 29) (hk : kin (cd u)) (hKd : Kd + 31 ≤ 1500) (hKa : Ka ≤ 900) (hil : isL (cd u) 16 = true) (hlo : lo ≤ 16) (gap : ∀ t, lo ≤ t → t < 16 → isL (cd u) t = false) : INV cd u X 17 Kd Ka Kn (lay_16 u (cd u) X S) := by
  obtain ⟨a0, a1, a2, a3, a4, b0, b1, b2, b3, c2, c4, c52, c53, c54, c9, c23, c43, c61, c49, c59, c39, c50, c35, c58, d0, d1, d2, d3, d4, d5, d6, d7, d8, d9, d10, d11, z, c5⟩ := h
  have gp : ∀ t, t < 16 → isL (cd u) t = true → t < lo := fun t h1 h2 => by
    rcases Nat.lt_or_ge t lo with q | q
    · exact q
    · rw [gap t q h1] at h2; cases h2
  refine ⟨?_, ?_, ?_, ?_, ?_, ?_, ?_, ?_, ?_, ?_, ?_, ?_, ?_, ?_, ?_, ?_, ?_, ?_, ?_, ?_, ?_, ?_, ?_, ?_, ?_, ?_, ?_, ?_, ?_, ?_, ?_, ?_, ?_, ?_, ?_, ?_, ?_, ?_⟩
  · exact by rw [evo_16 (u := u) (c := cd u) (X := X) (S := S) (k := 0) (by decide) (by decide)]; exact a0
  · exact fun _ => by rw [evo_16 (u := u) (c := cd u) (X := X) (S := S) (k := 1) (by decide) (by decide)]; exact a1 (gp 0 (by decide) ((show ∀ c, c < 29 → isL c 0 = true by decide) _ hc))
  · exact fun q => by rw [evo_16 (u := u) (c := cd u) (X := X) (S := S) (k := 12) (by decide) (by decide)]; exact a2 q
  · exact fun q => by rw [evo_16 (u := u) (c := cd u) (X := X) (S := S) (k := 46) (by decide) (by decide)]; exact a3 q
  · exact fun q => by rw [evo_16 (u := u) (c := cd u) (X := X) (S := S) (k := 55) (by decide) (by decide)]; exact a4 q
  · exact by rw [ev1_16_0]; exact b0.mono (by omega)
  · exact fun q => by omega
  · exact by rw [ev1_16_1]; exact b2
  · exact by rw [ev1_16_3]; exact (nn_one b3).mono (by omega)
  · exact by rw [evo_16 (u := u) (c := cd u) (X := X) (S := S) (k := 2) (by decide) (by decide)]; exact c2
  · exact by rw [evo_16 (u := u) (c := cd u) (X := X) (S := S) (k := 4) (by decide) (by decide)]; exact c4
  · exact by rw [evo_16 (u := u) (c := cd u) (X := X) (S := S) (k := 52) (by decide) (by decide)]; exact c52
  · exact by rw [evo_16 (u := u) (c := cd u) (X := X) (S := S) (k := 53) (by decide) (by decide)]; exact c53
  · exact by rw [evo_16 (u := u) (c := cd u) (X := X) (S := S) (k := 54) (by decide) (by decide)]; exact c54
  · exact by rw [evo_16 (u := u) (c := cd u) (X := X) (S := S) (k := 9) (by decide) (by decide)]; exact c9
  · exact by rw [evo_16 (u := u) (c := cd u) (X := X) (S := S) (k := 23) (by decide) (by decide)]; exact c23
  · exact by rw [ev_16_43]; exact (nn_add (⟨200, by decide, rfl⟩ : nn 200 200) c2).mono (by decide)
  · exact by rw [evo_16 (u := u) (c := cd u) (X := X) (S := S) (k := 61) (by decide) (by decide)]; exact c61
  · exact by rw [evo_16 (u := u) (c := cd u) (X := X) (S := S) (k := 49) (by decide) (by decide)]; exact c49
  · exact by rw [evo_16 (u := u) (c := cd u) (X := X) (S := S) (k := 59) (by decide) (by decide)]; exact c59
  · exact by rw [evo_16 (u := u) (c := cd u) (X := X) (S := S) (k := 39) (by decide) (by decide)]; exact c39
  · exact by rw [evo_16 (u := u) (c := cd u) (X := X) (S := S) (k := 50) (by decide) (by decide)]; exact c50
  · exact by rw [evo_16 (u := u) (c := cd u) (X := X) (S := S) (k := 35) (by decide) (by decide)]; exact c35
  · exact by rw [evo_16 (u := u) (c := cd u) (X := X) (S := S) (k := 58) (by decide) (by decide)]; exact c58
  · exact fun q => by omega
  · exact fun q _ => by rw [evo_16 (u := u) (c := cd u) (X := X) (S := S) (k := 30) (by decide) (by decide)]; exact d1 q (gp 9 (by decide) (by rw [q]; decide))
  · exact fun q _ => by rw [evo_16 (u := u) (c := cd u) (X := X) (S := S) (k := 31) (by decide) (by decide)]; exact d2 q (gp 9 (by decide) q)
  · exact fun _ hl => absurd hl (by omega)
  · exact fun _ hl => absurd hl (by omega)
  · exact fun _ hl => absurd hl (by omega)
  · exact fun q _ => by rw [evo_16 (u := u) (c := cd u) (X := X) (S := S) (k := 27) (by decide) (by decide)]; exact d6 q (gp 8 (by decide) (by rw [q]; decide))
  · exact fun q _ => by rw [evo_16 (u := u) (c := cd u) (X := X) (S := S) (k := 27) (by decide) (by decide)]; exact d7 q (gp 13 (by decide) (by rw [q]; decide))
  · exact fun q _ => by rw [evo_16 (u := u) (c := cd u) (X := X) (S := S) (k := 27) (by decide) (by decide)]; exact d8 q (gp 14 (by decide) (by rw [q]; decide))
  · exact fun _ hl => absurd hl (by omega)
  · exact fun _ hl => absurd hl (by omega)
  · exact fun _ hl => absurd hl (by omega)
  · exact fun q => by omega
  · exact by rw [evo_16 (u := u) (c := cd u) (X := X) (S := S) (k := 5) (by decide) (by decide)]; exact c5
theorem inv_17 {n : Nat} {cd : Nat → Nat} {u : Nat} {X : Nat → Int32} {lo Kd Ka Kn : Nat} {S : MI} (h : INV cd u X lo Kd Ka Kn S) (hn : n ≤ 20) (ft : FT n cd u X) (hc : cd u < 29) (hk : kin (cd u)) (hKd : Kd + 31 ≤ 1500) (hKa : Ka ≤ 900) (hil : isL (cd u) 17 = true) (hlo : lo ≤ 17) (gap : ∀ t, lo ≤ t → t < 17 → isL (cd u) t = false) : INV cd u X 18 Kd Ka Kn (lay_17 u (cd u) X S) := by
  obtain ⟨a0, a1, a2, a3, a4, b0, b1, b2, b3, c2, c4, c52, c53, c54, c9, c23, c43, c61, c49, c59, c39, c50, c35, c58, d0, d1, d2, d3, d4, d5, d6, d7, d8, d9, d10, d11, z, c5⟩ := h
  have gp : ∀ t, t < 17 → isL (cd u) t = true → t < lo := fun t h1 h2 => by
    rcases Nat.lt_or_ge t lo with q | q
    · exact q
    · rw [gap t q h1] at h2; cases h2
  refine ⟨?_, ?_, ?_, ?_, ?_, ?_, ?_, ?_, ?_, ?_, ?_, ?_, ?_, ?_, ?_, ?_, ?_, ?_, ?_, ?_, ?_, ?_, ?_, ?_, ?_, ?_, ?_, ?_, ?_, ?_, ?_, ?_, ?_, ?_, ?_, ?_, ?_, ?_⟩
  · exact by rw [evo_17 (u := u) (c := cd u) (X := X) (S := S) (k := 0) (by decide) (by decide)]; exact a0
  · exact fun _ => by rw [evo_17 (u := u) (c := cd u) (X := X) (S := S) (k := 1) (by decide) (by decide)]; exact a1 (gp 0 (by decide) ((show ∀ c, c < 29 → isL c 0 = true by decide) _ hc))
  · exact fun q => by rw [evo_17 (u := u) (c := cd u) (X := X) (S := S) (k := 12) (by decide) (by decide)]; exact a2 q
  · exact fun q => by rw [evo_17 (u := u) (c := cd u) (X := X) (S := S) (k := 46) (by decide) (by decide)]; exact a3 q
  · exact fun q => by rw [evo_17 (u := u) (c := cd u) (X := X) (S := S) (k := 55) (by decide) (by decide)]; exact a4 q
  · exact by rw [ev1_17_0]; exact b0.mono (by omega)
  · exact fun q => by omega
  · exact by rw [ev1_17_1]; exact b2
  · exact by rw [ev1_17_3]; exact (nn_one b3).mono (by omega)
  · exact by rw [evo_17 (u := u) (c := cd u) (X := X) (S := S) (k := 2) (by decide) (by decide)]; exact c2
  · exact by rw [evo_17 (u := u) (c := cd u) (X := X) (S := S) (k := 4) (by decide) (by decide)]; exact c4
  · exact by rw [evo_17 (u := u) (c := cd u) (X := X) (S := S) (k := 52) (by decide) (by decide)]; exact c52
  · exact by rw [evo_17 (u := u) (c := cd u) (X := X) (S := S) (k := 53) (by decide) (by decide)]; exact c53
  · exact by rw [evo_17 (u := u) (c := cd u) (X := X) (S := S) (k := 54) (by decide) (by decide)]; exact c54
  · exact by rw [evo_17 (u := u) (c := cd u) (X := X) (S := S) (k := 9) (by decide) (by decide)]; exact c9
  · exact by rw [evo_17 (u := u) (c := cd u) (X := X) (S := S) (k := 23) (by decide) (by decide)]; exact c23
  · exact by rw [evo_17 (u := u) (c := cd u) (X := X) (S := S) (k := 43) (by decide) (by decide)]; exact c43
  · exact by rw [evo_17 (u := u) (c := cd u) (X := X) (S := S) (k := 61) (by decide) (by decide)]; exact c61
  · exact by rw [evo_17 (u := u) (c := cd u) (X := X) (S := S) (k := 49) (by decide) (by decide)]; exact c49
  · exact by rw [evo_17 (u := u) (c := cd u) (X := X) (S := S) (k := 59) (by decide) (by decide)]; exact c59
  · exact by rw [evo_17 (u := u) (c := cd u) (X := X) (S := S) (k := 39) (by decide) (by decide)]; exact c39
  · exact by rw [evo_17 (u := u) (c := cd u) (X := X) (S := S) (k := 50) (by decide) (by decide)]; exact c50
  · exact by rw [evo_17 (u := u) (c := cd u) (X := X) (S := S) (k := 35) (by decide) (by decide)]; exact c35
  · exact by rw [evo_17 (u := u) (c := cd u) (X := X) (S := S) (k := 58) (by decide) (by decide)]; exact c58
  · exact fun q => by omega
  · exact fun q _ => by rw [evo_17 (u := u) (c := cd u) (X := X) (S := S) (k := 30) (by decide) (by decide)]; exact d1 q (gp 9 (by decide) (by rw [q]; decide))
  · exact fun q _ => by rw [evo_17 (u := u) (c := cd u) (X := X) (S := S) (k := 31) (by decide) (by decide)]; exact d2 q (gp 9 (by decide) q)
  · exact fun _ hl => absurd hl (by omega)
  · exact fun _ hl => absurd hl (by omega)
  · exact fun _ hl => absurd hl (by omega)
  · exact fun q _ => by rw [evo_17 (u := u) (c := cd u) (X := X) (S := S) (k := 27) (by decide) (by decide)]; exact d6 q (gp 8 (by decide) (by rw [q]; decide))
  · exact fun q _ => by rw [evo_17 (u := u) (c := cd u) (X := X) (S := S) (k := 27) (by decide) (by decide)]; exact d7 q (gp 13 (by decide) (by rw [q]; decide))
  · exact fun q _ => by rw [evo_17 (u := u) (c := cd u) (X := X) (S := S) (k := 27) (by decide) (by decide)]; exact d8 q (gp 14 (by decide) (by rw [q]; decide))
  · exact fun _ hl => absurd hl (by omega)
  · exact fun _ hl => absurd hl (by omega)
  · exact fun _ hl => absurd hl (by omega)
  · exact fun q => by omega
  · exact by rw [evo_17 (u := u) (c := cd u) (X := X) (S := S) (k := 5) (by decide) (by decide)]; exact c5
theorem inv_18 {n : Nat} {cd : Nat → Nat} {u : Nat} {X : Nat → Int32} {lo Kd Ka Kn : Nat} {S : MI} (h : INV cd u X lo Kd Ka Kn S) (hn : n ≤ 20) (ft : FT n cd u X) (hc : cd u < 29) (hk : kin (cd u)) (hKd : Kd + 31 ≤ 1500) (hKa : Ka ≤ 900) (hil : isL (cd u) 18 = true) (hlo : lo ≤ 18) (gap : ∀ t, lo ≤ t → t < 18 → isL (cd u) t = false) : INV cd u X 19 Kd Ka Kn (lay_18 u (cd u) X S) := by
  obtain ⟨a0, a1, a2, a3, a4, b0, b1, b2, b3, c2, c4, c52, c53, c54, c9, c23, c43, c61, c49, c59, c39, c50, c35, c58, d0, d1, d2, d3, d4, d5, d6, d7, d8, d9, d10, d11, z, c5⟩ := h
  have gp : ∀ t, t < 18 → isL (cd u) t = true → t < lo := fun t h1 h2 => by
    rcases Nat.lt_or_ge t lo with q | q
    · exact q
    · rw [gap t q h1] at h2; cases h2
  refine ⟨?_, ?_, ?_, ?_, ?_, ?_, ?_, ?_, ?_, ?_, ?_, ?_, ?_, ?_, ?_, ?_, ?_, ?_, ?_, ?_, ?_, ?_, ?_, ?_, ?_, ?_, ?_, ?_, ?_, ?_, ?_, ?_, ?_, ?_, ?_, ?_, ?_, ?_⟩
  · exact by rw [evo_18 (u := u) (c := cd u) (X := X) (S := S) (k := 0) (by decide) (by decide) (by decide)]; exact a0
  · exact fun _ => by rw [evo_18 (u := u) (c := cd u) (X := X) (S := S) (k := 1) (by decide) (by decide) (by decide)]; exact a1 (gp 0 (by decide) ((show ∀ c, c < 29 → isL c 0 = true by decide) _ hc))
  · exact fun q => by rw [evo_18 (u := u) (c := cd u) (X := X) (S := S) (k := 12) (by decide) (by decide) (by decide)]; exact a2 q
  · exact fun q => by rw [evo_18 (u := u) (c := cd u) (X := X) (S := S) (k := 46) (by decide) (by decide) (by decide)]; exact a3 q
  · exact fun q => by rw [evo_18 (u := u) (c := cd u) (X := X) (S := S) (k := 55) (by decide) (by decide) (by decide)]; exact a4 q
  · exact by rw [ev1_18_0]; exact (nn_one b0).mono (by omega)
  · exact fun q => by omega
  · exact by rw [ev1_18_1]; exact b2
  · exact by rw [ev1_18_3]; exact (nn_one b3).mono (by omega)
  · exact by rw [evo_18 (u := u) (c := cd u) (X := X) (S := S) (k := 2) (by decide) (by decide) (by decide)]; exact c2
  · exact by rw [evo_18 (u := u) (c := cd u) (X := X) (S := S) (k := 4) (by decide) (by decide) (by decide)]; exact c4
  · exact by rw [evo_18 (u := u) (c := cd u) (X := X) (S := S) (k := 52) (by decide) (by decide) (by decide)]; exact c52
  · exact by rw [evo_18 (u := u) (c := cd u) (X := X) (S := S) (k := 53) (by decide) (by decide) (by decide)]; exact c53
  · exact by rw [evo_18 (u := u) (c := cd u) (X := X) (S := S) (k := 54) (by decide) (by decide) (by decide)]; exact c54
  · exact by rw [evo_18 (u := u) (c := cd u) (X := X) (S := S) (k := 9) (by decide) (by decide) (by decide)]; exact c9
  · exact by rw [evo_18 (u := u) (c := cd u) (X := X) (S := S) (k := 23) (by decide) (by decide) (by decide)]; exact c23
  · exact by rw [evo_18 (u := u) (c := cd u) (X := X) (S := S) (k := 43) (by decide) (by decide) (by decide)]; exact c43
  · exact by rw [evo_18 (u := u) (c := cd u) (X := X) (S := S) (k := 61) (by decide) (by decide) (by decide)]; exact c61
  · exact by rw [evo_18 (u := u) (c := cd u) (X := X) (S := S) (k := 49) (by decide) (by decide) (by decide)]; exact c49
  · exact by rw [evo_18 (u := u) (c := cd u) (X := X) (S := S) (k := 59) (by decide) (by decide) (by decide)]; exact c59
  · exact by rw [evo_18 (u := u) (c := cd u) (X := X) (S := S) (k := 39) (by decide) (by decide) (by decide)]; exact c39
  · exact by rw [evo_18 (u := u) (c := cd u) (X := X) (S := S) (k := 50) (by decide) (by decide) (by decide)]; exact c50
  · exact by rw [evo_18 (u := u) (c := cd u) (X := X) (S := S) (k := 35) (by decide) (by decide) (by decide)]; exact c35
  · exact by rw [evo_18 (u := u) (c := cd u) (X := X) (S := S) (k := 58) (by decide) (by decide) (by decide)]; exact c58
  · exact fun q => by omega
  · exact fun q _ => by rw [evo_18 (u := u) (c := cd u) (X := X) (S := S) (k := 30) (by decide) (by decide) (by decide)]; exact d1 q (gp 9 (by decide) (by rw [q]; decide))
  · exact fun q _ => by rw [evo_18 (u := u) (c := cd u) (X := X) (S := S) (k := 31) (by decide) (by decide) (by decide)]; exact d2 q (gp 9 (by decide) q)
  · exact fun _ hl => absurd hl (by omega)
  · intro q _
    rw [ev_18_47]
    obtain ⟨k, k1, k2⟩ := nn_iR (d := 3) (((nn_one b0).mono (by omega) : nn (S 1 0 + 1) 2000000000)) (by decide) (by decide)
    exact ⟨k + 1, by omega, by omega, by rw [← nI_1]; exact congrArg (· + 1) k2⟩
  · exact fun _ hl => absurd hl (by omega)
  · exact fun q _ => (show False by rw [q] at hil; exact absurd hil (by decide)).elim
  · exact fun q _ => (show False by rw [q] at hil; exact absurd hil (by decide)).elim
  · exact fun q _ => (show False by rw [q] at hil; exact absurd hil (by decide)).elim
  · exact fun q _ => ev_18_27
  · exact fun _ hl => absurd hl (by omega)
  · exact fun _ hl => absurd hl (by omega)
  · exact fun q => by omega
  · exact by rw [evo_18 (u := u) (c := cd u) (X := X) (S := S) (k := 5) (by decide) (by decide) (by decide)]; exact c5
theorem inv_19 {n : Nat} {cd : Nat → Nat} {u : Nat} {X : Nat → Int32} {lo Kd Ka Kn : Nat} {S : MI} (h : INV cd u X lo Kd Ka Kn S) (hn : n ≤ 20) (ft : FT n cd u X) (hc : cd u < 29) (hk : kin (cd u)) (hKd : Kd + 31 ≤ 1500) (hKa : Ka ≤ 900) (hil : isL (cd u) 19 = true) (hlo : lo ≤ 19) (gap : ∀ t, lo ≤ t → t < 19 → isL (cd u) t = false) : INV cd u X 20 Kd Ka Kn (lay_19 u (cd u) X S) := by
  obtain ⟨a0, a1, a2, a3, a4, b0, b1, b2, b3, c2, c4, c52, c53, c54, c9, c23, c43, c61, c49, c59, c39, c50, c35, c58, d0, d1, d2, d3, d4, d5, d6, d7, d8, d9, d10, d11, z, c5⟩ := h
  have gp : ∀ t, t < 19 → isL (cd u) t = true → t < lo := fun t h1 h2 => by
    rcases Nat.lt_or_ge t lo with q | q
    · exact q
    · rw [gap t q h1] at h2; cases h2
  refine ⟨?_, ?_, ?_, ?_, ?_, ?_, ?_, ?_, ?_, ?_, ?_, ?_, ?_, ?_, ?_, ?_, ?_, ?_, ?_, ?_, ?_, ?_, ?_, ?_, ?_, ?_, ?_, ?_, ?_, ?_, ?_, ?_, ?_, ?_, ?_, ?_, ?_, ?_⟩
  · exact by rw [evo_19 (u := u) (c := cd u) (X := X) (S := S) (k := 0) (by decide) (by decide)]; exact a0
  · exact fun _ => by rw [evo_19 (u := u) (c := cd u) (X := X) (S := S) (k := 1) (by decide) (by decide)]; exact a1 (gp 0 (by decide) ((show ∀ c, c < 29 → isL c 0 = true by decide) _ hc))
  · exact fun q => by rw [evo_19 (u := u) (c := cd u) (X := X) (S := S) (k := 12) (by decide) (by decide)]; exact a2 q
  · exact fun q => by rw [evo_19 (u := u) (c := cd u) (X := X) (S := S) (k := 46) (by decide) (by decide)]; exact a3 q
  · exact fun q => by rw [evo_19 (u := u) (c := cd u) (X := X) (S := S) (k := 55) (by decide) (by decide)]; exact a4 q
  · exact by rw [ev1_19_0]; exact b0.mono (by omega)
  · exact fun q => by omega
  · exact by rw [ev1_19_1]; exact b2
  · exact by rw [ev1_19_3]; exact (nn_one b3).mono (by omega)
  · exact by rw [evo_19 (u := u) (c := cd u) (X := X) (S := S) (k := 2) (by decide) (by decide)]; exact c2
  · exact by rw [evo_19 (u := u) (c := cd u) (X := X) (S := S) (k := 4) (by decide) (by decide)]; exact c4
  · exact by rw [evo_19 (u := u) (c := cd u) (X := X) (S := S) (k := 52) (by decide) (by decide)]; exact c52
  · exact by rw [evo_19 (u := u) (c := cd u) (X := X) (S := S) (k := 53) (by decide) (by decide)]; exact c53
  · exact by rw [evo_19 (u := u) (c := cd u) (X := X) (S := S) (k := 54) (by decide) (by decide)]; exact c54
  · exact by rw [evo_19 (u := u) (c := cd u) (X := X) (S := S) (k := 9) (by decide) (by decide)]; exact c9
  · exact by rw [evo_19 (u := u) (c := cd u) (X := X) (S := S) (k := 23) (by decide) (by decide)]; exact c23
  · exact by rw [evo_19 (u := u) (c := cd u) (X := X) (S := S) (k := 43) (by decide) (by decide)]; exact c43
  · exact by rw [evo_19 (u := u) (c := cd u) (X := X) (S := S) (k := 61) (by decide) (by decide)]; exact c61
  · exact by rw [evo_19 (u := u) (c := cd u) (X := X) (S := S) (k := 49) (by decide) (by decide)]; exact c49
  · exact by rw [evo_19 (u := u) (c := cd u) (X := X) (S := S) (k := 59) (by decide) (by decide)]; exact c59
  · exact by rw [evo_19 (u := u) (c := cd u) (X := X) (S := S) (k := 39) (by decide) (by decide)]; exact c39
  · exact by rw [evo_19 (u := u) (c := cd u) (X := X) (S := S) (k := 50) (by decide) (by decide)]; exact c50
  · exact by rw [evo_19 (u := u) (c := cd u) (X := X) (S := S) (k := 35) (by decide) (by decide)]; exact c35
  · exact by rw [evo_19 (u := u) (c := cd u) (X := X) (S := S) (k := 58) (by decide) (by decide)]; exact c58
  · exact fun q => by omega
  · exact fun q _ => by rw [evo_19 (u := u) (c := cd u) (X := X) (S := S) (k := 30) (by decide) (by decide)]; exact d1 q (gp 9 (by decide) (by rw [q]; decide))
  · exact fun q _ => by rw [evo_19 (u := u) (c := cd u) (X := X) (S := S) (k := 31) (by decide) (by decide)]; exact d2 q (gp 9 (by decide) q)
  · exact fun _ hl => absurd hl (by omega)
  · exact fun q _ => by rw [evo_19 (u := u) (c := cd u) (X := X) (S := S) (k := 47) (by decide) (by decide)]; exact d4 q (gp 18 (by decide) q)
  · intro q _
    rw [ev_19_48]
    obtain ⟨k, k0, k1, k2⟩ := d4 (by rw [q]; decide) (gp 18 (by decide) (by rw [q]; decide))
    exact ⟨k + 1, by omega, by omega, by rw [k2, nI_1]⟩
  · exact fun q _ => by rw [evo_19 (u := u) (c := cd u) (X := X) (S := S) (k := 27) (by decide) (by decide)]; exact d6 q (gp 8 (by decide) (by rw [q]; decide))
  · exact fun q _ => by rw [evo_19 (u := u) (c := cd u) (X := X) (S := S) (k := 27) (by decide) (by decide)]; exact d7 q (gp 13 (by decide) (by rw [q]; decide))
  · exact fun q _ => by rw [evo_19 (u := u) (c := cd u) (X := X) (S := S) (k := 27) (by decide) (by decide)]; exact d8 q (gp 14 (by decide) (by rw [q]; decide))
  · exact fun q _ => by rw [evo_19 (u := u) (c := cd u) (X := X) (S := S) (k := 27) (by decide) (by decide)]; exact d9 q (gp 18 (by decide) q)
  · exact fun _ hl => absurd hl (by omega)
  · exact fun _ hl => absurd hl (by omega)
  · exact fun q => by omega
  · exact by rw [evo_19 (u := u) (c := cd u) (X := X) (S := S) (k := 5) (by decide) (by decide)]; exact c5
theorem inv_20 {n : Nat} {cd : Nat → Nat} {u : Nat} {X : Nat → Int32} {lo Kd Ka Kn : Nat} {S : MI} (h : INV cd u X lo Kd Ka Kn S) (hn : n ≤ 20) (ft : FT n cd u X) (hc : cd u < 29) (hk : kin (cd u)) (hKd : Kd + 31 ≤ 1500) (hKa : Ka ≤ 900) (hil : isL (cd u) 20 = true) (hlo : lo ≤ 20) (gap : ∀ t, lo ≤ t → t < 20 → isL (cd u) t = false) : INV cd u X 21 Kd Ka Kn (lay_20 u (cd u) X S) := by
  obtain ⟨a0, a1, a2, a3, a4, b0, b1, b2, b3, c2, c4, c52, c53, c54, c9, c23, c43, c61, c49, c59, c39, c50, c35, c58, d0, d1, d2, d3, d4, d5, d6, d7, d8, d9, d10, d11, z, c5⟩ := h
  have gp : ∀ t, t < 20 → isL (cd u) t = true → t < lo := fun t h1 h2 => by
    rcases Nat.lt_or_ge t lo with q | q
    · exact q
    · rw [gap t q h1] at h2; cases h2
  refine ⟨?_, ?_, ?_, ?_, ?_, ?_, ?_, ?_, ?_, ?_, ?_, ?_, ?_, ?_, ?_, ?_, ?_, ?_, ?_, ?_, ?_, ?_, ?_, ?_, ?_, ?_, ?_, ?_, ?_, ?_, ?_, ?_, ?_, ?_, ?_, ?_, ?_, ?_⟩
  · exact by rw [evo_20 (u := u) (c := cd u) (X := X) (S := S) (k := 0) (by decide) (by decide) (by decide)]; exact a0
  · exact fun _ => by rw [evo_20 (u := u) (c := cd u) (X := X) (S := S) (k := 1) (by decide) (by decide) (by decide)]; exact a1 (gp 0 (by decide) ((show ∀ c, c < 29 → isL c 0 = true by decide) _ hc))
  · exact fun q => by rw [evo_20 (u := u) (c := cd u) (X := X) (S := S) (k := 12) (by decide) (by decide) (by decide)]; exact a2 q
  · exact fun q => by rw [evo_20 (u := u) (c := cd u) (X := X) (S := S) (k := 46) (by decide) (by decide) (by decide)]; exact a3 q
  · exact fun q => by rw [evo_20 (u := u) (c := cd u) (X := X) (S := S) (k := 55) (by decide) (by decide) (by decide)]; exact a4 q
  · exact by rw [ev1_20_0]; exact b0.mono (by omega)
  · exact fun q => by omega
  · exact by rw [ev1_20_1]; exact b2
  · exact by rw [ev1_20_3]; exact (nn_one b3).mono (by omega)
  · exact by rw [evo_20 (u := u) (c := cd u) (X := X) (S := S) (k := 2) (by decide) (by decide) (by decide)]; exact c2
  · exact by rw [evo_20 (u := u) (c := cd u) (X := X) (S := S) (k := 4) (by decide) (by decide) (by decide)]; exact c4
  · exact by rw [evo_20 (u := u) (c := cd u) (X := X) (S := S) (k := 52) (by decide) (by decide) (by decide)]; exact c52
  · exact by rw [evo_20 (u := u) (c := cd u) (X := X) (S := S) (k := 53) (by decide) (by decide) (by decide)]; exact c53
  · exact by rw [evo_20 (u := u) (c := cd u) (X := X) (S := S) (k := 54) (by decide) (by decide) (by decide)]; exact c54
  · exact by rw [evo_20 (u := u) (c := cd u) (X := X) (S := S) (k := 9) (by decide) (by decide) (by decide)]; exact c9
  · exact by rw [evo_20 (u := u) (c := cd u) (X := X) (S := S) (k := 23) (by decide) (by decide) (by decide)]; exact c23
  · exact by rw [evo_20 (u := u) (c := cd u) (X := X) (S := S) (k := 43) (by decide) (by decide) (by decide)]; exact c43
  · exact by rw [evo_20 (u := u) (c := cd u) (X := X) (S := S) (k := 61) (by decide) (by decide) (by decide)]; exact c61
  · exact by rw [ev_20_49]; exact (nn_one (nn_mul (b := 2) c4)).mono (by decide)
  · exact by rw [evo_20 (u := u) (c := cd u) (X := X) (S := S) (k := 59) (by decide) (by decide) (by decide)]; exact c59
  · exact by rw [evo_20 (u := u) (c := cd u) (X := X) (S := S) (k := 39) (by decide) (by decide) (by decide)]; exact c39
  · exact by rw [ev_20_50]; exact (ft.2.2.2.2.2.2.2.2.2.2.2.2.2.2.2 hil).nn
  · exact by rw [evo_20 (u := u) (c := cd u) (X := X) (S := S) (k := 35) (by decide) (by decide) (by decide)]; exact c35
  · exact by rw [evo_20 (u := u) (c := cd u) (X := X) (S := S) (k := 58) (by decide) (by decide) (by decide)]; exact c58
  · exact fun q => by omega
  · exact fun q _ => by rw [evo_20 (u := u) (c := cd u) (X := X) (S := S) (k := 30) (by decide) (by decide) (by decide)]; exact d1 q (gp 9 (by decide) (by rw [q]; decide))
  · exact fun q _ => by rw [evo_20 (u := u) (c := cd u) (X := X) (S := S) (k := 31) (by decide) (by decide) (by decide)]; exact d2 q (gp 9 (by decide) q)
  · exact fun _ hl => absurd hl (by omega)
  · exact fun q _ => by rw [evo_20 (u := u) (c := cd u) (X := X) (S := S) (k := 47) (by decide) (by decide) (by decide)]; exact d4 q (gp 18 (by decide) q)
  · exact fun q _ => by rw [evo_20 (u := u) (c := cd u) (X := X) (S := S) (k := 48) (by decide) (by decide) (by decide)]; exact d5 q (gp 19 (by decide) (by rw [q]; decide))
  · exact fun q _ => by rw [evo_20 (u := u) (c := cd u) (X := X) (S := S) (k := 27) (by decide) (by decide) (by decide)]; exact d6 q (gp 8 (by decide) (by rw [q]; decide))
  · exact fun q _ => by rw [evo_20 (u := u) (c := cd u) (X := X) (S := S) (k := 27) (by decide) (by decide) (by decide)]; exact d7 q (gp 13 (by decide) (by rw [q]; decide))
  · exact fun q _ => by rw [evo_20 (u := u) (c := cd u) (X := X) (S := S) (k := 27) (by decide) (by decide) (by decide)]; exact d8 q (gp 14 (by decide) (by rw [q]; decide))
  · exact fun q _ => by rw [evo_20 (u := u) (c := cd u) (X := X) (S := S) (k := 27) (by decide) (by decide) (by decide)]; exact d9 q (gp 18 (by decide) q)
  · exact fun _ hl => absurd hl (by omega)
  · exact fun _ hl => absurd hl (by omega)
  · exact fun q => by omega
  · exact by rw [evo_20 (u := u) (c := cd u) (X := X) (S := S) (k := 5) (by decide) (by decide) (by decide)]; exact c5
theorem inv_21 {n : Nat} {cd : Nat → Nat} {u : Nat} {X : Nat → Int32} {lo Kd Ka Kn : Nat} {S : MI} (h : INV cd u X lo Kd Ka Kn S) (hn : n ≤ 20) (ft : FT n cd u X) (hc : cd u < 29) (hk : kin (cd u)) (hKd : Kd + 31 ≤ 1500) (hKa : Ka ≤ 900) (hil : isL (cd u) 21 = true) (hlo : lo ≤ 21) (gap : ∀ t, lo ≤ t → t < 21 → isL (cd u) t = false) : INV cd u X 22 Kd Ka Kn (lay_21 u (cd u) X S) := by
  obtain ⟨a0, a1, a2, a3, a4, b0, b1, b2, b3, c2, c4, c52, c53, c54, c9, c23, c43, c61, c49, c59, c39, c50, c35, c58, d0, d1, d2, d3, d4, d5, d6, d7, d8, d9, d10, d11, z, c5⟩ := h
  have gp : ∀ t, t < 21 → isL (cd u) t = true → t < lo := fun t h1 h2 => by
    rcases Nat.lt_or_ge t lo with q | q
    · exact q
    · rw [gap t q h1] at h2; cases h2
  have half50 : nn (S 0 50 / 2 + 1) 40 := by
    obtain ⟨k, k1, k2⟩ := c50
    rw [k2]
    exact ⟨k / 2 + 1, by omega, by rw [← nI_1]; exact congrArg (· + 1) (pk_div (d := 2) (by omega) (by decide) (by decide))⟩
  refine ⟨?_, ?_, ?_, ?_, ?_, ?_, ?_, ?_, ?_, ?_, ?_, ?_, ?_, ?_, ?_, ?_, ?_, ?_, ?_, ?_, ?_, ?_, ?_, ?_, ?_, ?_, ?_, ?_, ?_, ?_, ?_, ?_, ?_, ?_, ?_, ?_, ?_, ?_⟩
  · exact by rw [evo_21 (u := u) (c := cd u) (X := X) (S := S) (k := 0) (by decide) (by decide)]; exact a0
  · exact fun _ => by rw [evo_21 (u := u) (c := cd u) (X := X) (S := S) (k := 1) (by decide) (by decide)]; exact a1 (gp 0 (by decide) ((show ∀ c, c < 29 → isL c 0 = true by decide) _ hc))
  · exact fun q => by rw [evo_21 (u := u) (c := cd u) (X := X) (S := S) (k := 12) (by decide) (by decide)]; exact a2 q
  · exact fun q => by rw [evo_21 (u := u) (c := cd u) (X := X) (S := S) (k := 46) (by decide) (by decide)]; exact a3 q
  · exact fun q => by rw [evo_21 (u := u) (c := cd u) (X := X) (S := S) (k := 55) (by decide) (by decide)]; exact a4 q
  · exact by rw [ev1_21_0]; exact b0.mono (by omega)
  · exact fun q => by omega
  · exact by rw [ev1_21_1]; exact b2
  · exact by rw [ev1_21_3]; exact (nn_one b3).mono (by omega)
  · exact by rw [evo_21 (u := u) (c := cd u) (X := X) (S := S) (k := 2) (by decide) (by decide)]; exact c2
  · exact by rw [evo_21 (u := u) (c := cd u) (X := X) (S := S) (k := 4) (by decide) (by decide)]; exact c4
  · exact by rw [evo_21 (u := u) (c := cd u) (X := X) (S := S) (k := 52) (by decide) (by decide)]; exact c52
  · exact by rw [evo_21 (u := u) (c := cd u) (X := X) (S := S) (k := 53) (by decide) (by decide)]; exact c53
  · exact by rw [evo_21 (u := u) (c := cd u) (X := X) (S := S) (k := 54) (by decide) (by decide)]; exact c54
  · exact by rw [evo_21 (u := u) (c := cd u) (X := X) (S := S) (k := 9) (by decide) (by decide)]; exact c9
  · exact by rw [evo_21 (u := u) (c := cd u) (X := X) (S := S) (k := 23) (by decide) (by decide)]; exact c23
  · exact by rw [evo_21 (u := u) (c := cd u) (X := X) (S := S) (k := 43) (by decide) (by decide)]; exact c43
  · exact by rw [evo_21 (u := u) (c := cd u) (X := X) (S := S) (k := 61) (by decide) (by decide)]; exact c61
  · exact by rw [evo_21 (u := u) (c := cd u) (X := X) (S := S) (k := 49) (by decide) (by decide)]; exact c49
  · exact by rw [evo_21 (u := u) (c := cd u) (X := X) (S := S) (k := 59) (by decide) (by decide)]; exact c59
  · exact by rw [evo_21 (u := u) (c := cd u) (X := X) (S := S) (k := 39) (by decide) (by decide)]; exact c39
  · exact by rw [ev_21_50]; exact half50
  · exact by rw [evo_21 (u := u) (c := cd u) (X := X) (S := S) (k := 35) (by decide) (by decide)]; exact c35
  · exact by rw [evo_21 (u := u) (c := cd u) (X := X) (S := S) (k := 58) (by decide) (by decide)]; exact c58
  · exact fun q => by omega
  · exact fun q _ => by rw [evo_21 (u := u) (c := cd u) (X := X) (S := S) (k := 30) (by decide) (by decide)]; exact d1 q (gp 9 (by decide) (by rw [q]; decide))
  · exact fun q _ => ((show ∀ c, c < 29 → kin c → isL c 21 = true → isL c 9 = true → False by unfold kin; decide) _ hc hk hil q).elim
  · intro q _
    rw [ev_21_31]
    obtain ⟨k, k1, k2⟩ := nn_iR (d := 7) (c49.mono (by decide)) (by decide) (by decide)
    exact ⟨10 + k, by omega, by omega, by rw [← nI_add]; exact congrArg (10 + ·) k2⟩
  · exact fun q _ => by rw [evo_21 (u := u) (c := cd u) (X := X) (S := S) (k := 47) (by decide) (by decide)]; exact d4 q (gp 18 (by decide) q)
  · exact fun q _ => by rw [evo_21 (u := u) (c := cd u) (X := X) (S := S) (k := 48) (by decide) (by decide)]; exact d5 q (gp 19 (by decide) (by rw [q]; decide))
  · exact fun q _ => by rw [evo_21 (u := u) (c := cd u) (X := X) (S := S) (k := 27) (by decide) (by decide)]; exact d6 q (gp 8 (by decide) (by rw [q]; decide))
  · exact fun q _ => by rw [evo_21 (u := u) (c := cd u) (X := X) (S := S) (k := 27) (by decide) (by decide)]; exact d7 q (gp 13 (by decide) (by rw [q]; decide))
  · exact fun q _ => by rw [evo_21 (u := u) (c := cd u) (X := X) (S := S) (k := 27) (by decide) (by decide)]; exact d8 q (gp 14 (by decide) (by rw [q]; decide))
  · exact fun q _ => by rw [evo_21 (u := u) (c := cd u) (X := X) (S := S) (k := 27) (by decide) (by decide)]; exact d9 q (gp 18 (by decide) q)
  · exact fun _ hl => absurd hl (by omega)
  · exact fun _ hl => absurd hl (by omega)
  · exact fun q => by omega
  · exact by rw [evo_21 (u := u) (c := cd u) (X := X) (S := S) (k := 5) (by decide) (by decide)]; exact c5
theorem inv_22 {n : Nat} {cd : Nat → Nat} {u : Nat} {X : Nat → Int32} {lo Kd Ka Kn : Nat} {S : MI} (h : INV cd u X lo Kd Ka Kn S) (hn : n ≤ 20) (ft : FT n cd u X) (hc : cd u < 29) (hk : kin (cd u)) (hKd : Kd + 31 ≤ 1500) (hKa : Ka ≤ 900) (hil : isL (cd u) 22 = true) (hlo : lo ≤ 22) (gap : ∀ t, lo ≤ t → t < 22 → isL (cd u) t = false) : INV cd u X 23 Kd Ka Kn (lay_22 u (cd u) X S) := by
  obtain ⟨a0, a1, a2, a3, a4, b0, b1, b2, b3, c2, c4, c52, c53, c54, c9, c23, c43, c61, c49, c59, c39, c50, c35, c58, d0, d1, d2, d3, d4, d5, d6, d7, d8, d9, d10, d11, z, c5⟩ := h
  have gp : ∀ t, t < 22 → isL (cd u) t = true → t < lo := fun t h1 h2 => by
    rcases Nat.lt_or_ge t lo with q | q
    · exact q
    · rw [gap t q h1] at h2; cases h2
  refine ⟨?_, ?_, ?_, ?_, ?_, ?_, ?_, ?_, ?_, ?_, ?_, ?_, ?_, ?_, ?_, ?_, ?_, ?_, ?_, ?_, ?_, ?_, ?_, ?_, ?_, ?_, ?_, ?_, ?_, ?_, ?_, ?_, ?_, ?_, ?_, ?_, ?_, ?_⟩
  · exact by rw [evo_22 (u := u) (c := cd u) (X := X) (S := S) (k := 0) (by decide) (by decide)]; exact a0
  · exact fun _ => by rw [evo_22 (u := u) (c := cd u) (X := X) (S := S) (k := 1) (by decide) (by decide)]; exact a1 (gp 0 (by decide) ((show ∀ c, c < 29 → isL c 0 = true by decide) _ hc))
  · exact fun q => by rw [evo_22 (u := u) (c := cd u) (X := X) (S := S) (k := 12) (by decide) (by decide)]; exact a2 q
  · exact fun q => by rw [evo_22 (u := u) (c := cd u) (X := X) (S := S) (k := 46) (by decide) (by decide)]; exact a3 q
  · exact fun q => by rw [evo_22 (u := u) (c := cd u) (X := X) (S := S) (k := 55) (by decide) (by decide)]; exact a4 q
  · exact by rw [ev1_22_0]; exact (nn_one b0).mono (by omega)
  · exact fun q => by omega
  · exact by rw [ev1_22_1]; exact b2
  · exact by rw [ev1_22_3]; exact (nn_one b3).mono (by omega)
  · exact by rw [evo_22 (u := u) (c := cd u) (X := X) (S := S) (k := 2) (by decide) (by decide)]; exact c2
  · exact by rw [evo_22 (u := u) (c := cd u) (X := X) (S := S) (k := 4) (by decide) (by decide)]; exact c4
  · exact by rw [ev_22_52]; exact nn_iR (d := 3) (((nn_one b0).mono (by omega) : nn (S 1 0 + 1) 2000000000)) (by decide) (by decide)
  · exact by rw [evo_22 (u := u) (c := cd u) (X := X) (S := S) (k := 53) (by decide) (by decide)]; exact c53
  · exact by rw [evo_22 (u := u) (c := cd u) (X := X) (S := S) (k := 54) (by decide) (by decide)]; exact c54
  · exact by rw [evo_22 (u := u) (c := cd u) (X := X) (S := S) (k := 9) (by decide) (by decide)]; exact c9
  · exact by rw [evo_22 (u := u) (c := cd u) (X := X) (S := S) (k := 23) (by decide) (by decide)]; exact c23
  · exact by rw [ev_22_43]; exact (ft.2.2.1 hil).nn.mono (by decide)
  · exact by rw [evo_22 (u := u) (c := cd u) (X := X) (S := S) (k := 61) (by decide) (by decide)]; exact c61
  · exact by rw [evo_22 (u := u) (c := cd u) (X := X) (S := S) (k := 49) (by decide) (by decide)]; exact c49
  · exact by rw [evo_22 (u := u) (c := cd u) (X := X) (S := S) (k := 59) (by decide) (by decide)]; exact c59
  · exact by rw [evo_22 (u := u) (c := cd u) (X := X) (S := S) (k := 39) (by decide) (by decide)]; exact c39
  · exact by rw [evo_22 (u := u) (c := cd u) (X := X) (S := S) (k := 50) (by decide) (by decide)]; exact c50
  · exact by rw [evo_22 (u := u) (c := cd u) (X := X) (S := S) (k := 35) (by decide) (by decide)]; exact c35
  · exact by rw [evo_22 (u := u) (c := cd u) (X := X) (S := S) (k := 58) (by decide) (by decide)]; exact c58
  · exact fun q => by omega
  · exact fun q _ => by rw [evo_22 (u := u) (c := cd u) (X := X) (S := S) (k := 30) (by decide) (by decide)]; exact d1 q (gp 9 (by decide) (by rw [q]; decide))
  · exact fun q _ => by rw [evo_22 (u := u) (c := cd u) (X := X) (S := S) (k := 31) (by decide) (by decide)]; exact d2 q (gp 9 (by decide) q)
  · exact fun q _ => by rw [evo_22 (u := u) (c := cd u) (X := X) (S := S) (k := 31) (by decide) (by decide)]; exact d3 q (gp 21 (by decide) (by rw [q]; decide))
  · exact fun q _ => by rw [evo_22 (u := u) (c := cd u) (X := X) (S := S) (k := 47) (by decide) (by decide)]; exact d4 q (gp 18 (by decide) q)
  · exact fun q _ => by rw [evo_22 (u := u) (c := cd u) (X := X) (S := S) (k := 48) (by decide) (by decide)]; exact d5 q (gp 19 (by decide) (by rw [q]; decide))
  · exact fun q _ => by rw [evo_22 (u := u) (c := cd u) (X := X) (S := S) (k := 27) (by decide) (by decide)]; exact d6 q (gp 8 (by decide) (by rw [q]; decide))
  · exact fun q _ => by rw [evo_22 (u := u) (c := cd u) (X := X) (S := S) (k := 27) (by decide) (by decide)]; exact d7 q (gp 13 (by decide) (by rw [q]; decide))
  · exact fun q _ => by rw [evo_22 (u := u) (c := cd u) (X := X) (S := S) (k := 27) (by decide) (by decide)]; exact d8 q (gp 14 (by decide) (by rw [q]; decide))
  · exact fun q _ => by rw [evo_22 (u := u) (c := cd u) (X := X) (S := S) (k := 27) (by decide) (by decide)]; exact d9 q (gp 18 (by decide) q)
  · exact fun _ hl => absurd hl (by omega)
  · exact fun _ hl => absurd hl (by omega)
  · exact fun q => by omega
  · exact by rw [evo_22 (u := u) (c := cd u) (X := X) (S := S) (k := 5) (by decide) (by decide)]; exact c5
theorem inv_23 {n : Nat} {cd : Nat → Nat} {u : Nat} {X : Nat → Int32} {lo Kd Ka Kn : Nat} {S : MI} (h : INV cd u X lo Kd Ka Kn S) (hn : n ≤ 20) (ft : FT n cd u X) (hc : cd u < 29) (hk : kin (cd u)) (hKd : Kd + 31 ≤ 1500) (hKa : Ka ≤ 900) (hil : isL (cd u) 23 = true) (hlo : lo ≤ 23) (gap : ∀ t, lo ≤ t → t < 23 → isL (cd u) t = false) : INV cd u X 24 Kd Ka Kn (lay_23 u (cd u) X S) := by
  obtain ⟨a0, a1, a2, a3, a4, b0, b1, b2, b3, c2, c4, c52, c53, c54, c9, c23, c43, c61, c49, c59, c39, c50, c35, c58, d0, d1, d2, d3, d4, d5, d6, d7, d8, d9, d10, d11, z, c5⟩ := h
  have gp : ∀ t, t < 23 → isL (cd u) t = true → t < lo := fun t h1 h2 => by
    rcases Nat.lt_or_ge t lo with q | q
    · exact q
    · rw [gap t q h1] at h2; cases h2
  refine ⟨?_, ?_, ?_, ?_, ?_, ?_, ?_, ?_, ?_, ?_, ?_, ?_, ?_, ?_, ?_, ?_, ?_, ?_, ?_, ?_, ?_, ?_, ?_, ?_, ?_, ?_, ?_, ?_, ?_, ?_, ?_, ?_, ?_, ?_, ?_, ?_, ?_, ?_⟩
  · exact by rw [evo_23 (u := u) (c := cd u) (X := X) (S := S) (k := 0) (by decide) (by decide)]; exact a0
  · exact fun _ => by rw [evo_23 (u := u) (c := cd u) (X := X) (S := S) (k := 1) (by decide) (by decide)]; exact a1 (gp 0 (by decide) ((show ∀ c, c < 29 → isL c 0 = true by decide) _ hc))
  · exact fun q => by rw [evo_23 (u := u) (c := cd u) (X := X) (S := S) (k := 12) (by decide) (by decide)]; exact a2 q
  · exact fun q => by rw [evo_23 (u := u) (c := cd u) (X := X) (S := S) (k := 46) (by decide) (by decide)]; exact a3 q
  · exact fun q => by rw [evo_23 (u := u) (c := cd u) (X := X) (S := S) (k := 55) (by decide) (by decide)]; exact a4 q
  · exact by rw [ev1_23_0]; exact b0.mono (by omega)
  · exact fun q => by omega
  · exact by rw [ev1_23_1]; exact b2
  · exact by rw [ev1_23_3]; exact (nn_one b3).mono (by omega)
  · exact by rw [evo_23 (u := u) (c := cd u) (X := X) (S := S) (k := 2) (by decide) (by decide)]; exact c2
  · exact by rw [evo_23 (u := u) (c := cd u) (X := X) (S := S) (k := 4) (by decide) (by decide)]; exact c4
  · exact by rw [evo_23 (u := u) (c := cd u) (X := X) (S := S) (k := 52) (by decide) (by decide)]; exact c52
  · exact by rw [ev_23_53]; exact nn_mul (b := 10) c52
  · exact by rw [ev_23_54]; exact ft.2.2.2.1 ((show ∀ c, c < 29 → kin c → isL c 23 = true → c = 23 ∨ c = 24 by unfold kin; decide) _ hc hk hil)
  · exact by rw [evo_23 (u := u) (c := cd u) (X := X) (S := S) (k := 9) (by decide) (by decide)]; exact c9
  · exact by rw [evo_23 (u := u) (c := cd u) (X := X) (S := S) (k := 23) (by decide) (by decide)]; exact c23
  · exact by rw [evo_23 (u := u) (c := cd u) (X := X) (S := S) (k := 43) (by decide) (by decide)]; exact c43
  · exact by rw [evo_23 (u := u) (c := cd u) (X := X) (S := S) (k := 61) (by decide) (by decide)]; exact c61
  · exact by rw [evo_23 (u := u) (c := cd u) (X := X) (S := S) (k := 49) (by decide) (by decide)]; exact c49
  · exact by rw [evo_23 (u := u) (c := cd u) (X := X) (S := S) (k := 59) (by decide) (by decide)]; exact c59
  · exact by rw [evo_23 (u := u) (c := cd u) (X := X) (S := S) (k := 39) (by decide) (by decide)]; exact c39
  · exact by rw [evo_23 (u := u) (c := cd u) (X := X) (S := S) (k := 50) (by decide) (by decide)]; exact c50
  · exact by rw [evo_23 (u := u) (c := cd u) (X := X) (S := S) (k := 35) (by decide) (by decide)]; exact c35
  · exact by rw [evo_23 (u := u) (c := cd u) (X := X) (S := S) (k := 58) (by decide) (by decide)]; exact c58
  · exact fun q => by omega
  · exact fun q _ => by rw [evo_23 (u := u) (c := cd u) (X := X) (S := S) (k := 30) (by decide) (by decide)]; exact d1 q (gp 9 (by decide) (by rw [q]; decide))
  · exact fun q _ => by rw [evo_23 (u := u) (c := cd u) (X := X) (S := S) (k := 31) (by decide) (by decide)]; exact d2 q (gp 9 (by decide) q)
  · exact fun q _ => by rw [evo_23 (u := u) (c := cd u) (X := X) (S := S) (k := 31) (by decide) (by decide)]; exact d3 q (gp 21 (by decide) (by rw [q]; decide))
  · exact fun q _ => by rw [evo_23 (u := u) (c := cd u) (X := X) (S := S) (k := 47) (by decide) (by decide)]; exact d4 q (gp 18 (by decide) q)
  · exact fun q _ => by rw [evo_23 (u := u) (c := cd u) (X := X) (S := S) (k := 48) (by decide) (by decide)]; exact d5 q (gp 19 (by decide) (by rw [q]; decide))
  · exact fun q _ => by rw [evo_23 (u := u) (c := cd u) (X := X) (S := S) (k := 27) (by decide) (by decide)]; exact d6 q (gp 8 (by decide) (by rw [q]; decide))
  · exact fun q _ => by rw [evo_23 (u := u) (c := cd u) (X := X) (S := S) (k := 27) (by decide) (by decide)]; exact d7 q (gp 13 (by decide) (by rw [q]; decide))
  · exact fun q _ => by rw [evo_23 (u := u) (c := cd u) (X := X) (S := S) (k := 27) (by decide) (by decide)]; exact d8 q (gp 14 (by decide) (by rw [q]; decide))
  · exact fun q _ => by rw [evo_23 (u := u) (c := cd u) (X := X) (S := S) (k := 27) (by decide) (by decide)]; exact d9 q (gp 18 (by decide) q)
  · exact fun _ hl => absurd hl (by omega)
  · exact fun _ hl => absurd hl (by omega)
  · exact fun q => by omega
  · exact by rw [evo_23 (u := u) (c := cd u) (X := X) (S := S) (k := 5) (by decide) (by decide)]; exact c5
theorem inv_24 {n : Nat} {cd : Nat → Nat} {u : Nat} {X : Nat → Int32} {lo Kd Ka Kn : Nat} {S : MI} (h : INV cd u X lo Kd Ka Kn S) (hn : n ≤ 20) (ft : FT n cd u X) (hc : cd u < 29) (hk : kin (cd u)) (hKd : Kd + 31 ≤ 1500) (hKa : Ka ≤ 900) (hil : isL (cd u) 24 = true) (hlo : lo ≤ 24) (gap : ∀ t, lo ≤ t → t < 24 → isL (cd u) t = false) : INV cd u X 25 Kd Ka Kn (lay_24 u (cd u) X S) := by
  obtain ⟨a0, a1, a2, a3, a4, b0, b1, b2, b3, c2, c4, c52, c53, c54, c9, c23, c43, c61, c49, c59, c39, c50, c35, c58, d0, d1, d2, d3, d4, d5, d6, d7, d8, d9, d10, d11, z, c5⟩ := h
  have gp : ∀ t, t < 24 → isL (cd u) t = true → t < lo := fun t h1 h2 => by
    rcases Nat.lt_or_ge t lo with q | q
    · exact q
    · rw [gap t q h1] at h2; cases h2
  refine ⟨?_, ?_, ?_, ?_, ?_, ?_, ?_, ?_, ?_, ?_, ?_, ?_, ?_, ?_, ?_, ?_, ?_, ?_, ?_, ?_, ?_, ?_, ?_, ?_, ?_, ?_, ?_, ?_, ?_, ?_, ?_, ?_, ?_, ?_, ?_, ?_, ?_, ?_⟩
  · exact by rw [evo_24 (u := u) (c := cd u) (X := X) (S := S) (k := 0) (by decide)]; exact a0
  · exact fun _ => by rw [evo_24 (u := u) (c := cd u) (X := X) (S := S) (k := 1) (by decide)]; exact a1 (gp 0 (by decide) ((show ∀ c, c < 29 → isL c 0 = true by decide) _ hc))
  · exact fun q => by rw [evo_24 (u := u) (c := cd u) (X := X) (S := S) (k := 12) (by decide)]; exact a2 q
  · exact fun q => by rw [evo_24 (u := u) (c := cd u) (X := X) (S := S) (k := 46) (by decide)]; exact a3 q
  · exact fun q => by rw [evo_24 (u := u) (c := cd u) (X := X) (S := S) (k := 55) (by decide)]; exact a4 q
  · exact by rw [ev1_24_0]; exact b0.mono (by omega)
  · exact fun q => by omega
  · exact by rw [ev1_24_1]; exact b2
  · exact by rw [ev1_24_3]; exact (nn_one b3).mono (by omega)
  · exact by rw [evo_24 (u := u) (c := cd u) (X := X) (S := S) (k := 2) (by decide)]; exact c2
  · exact by rw [evo_24 (u := u) (c := cd u) (X := X) (S := S) (k := 4) (by decide)]; exact c4
  · exact by rw [evo_24 (u := u) (c := cd u) (X := X) (S := S) (k := 52) (by decide)]; exact c52
  · exact by rw [evo_24 (u := u) (c := cd u) (X := X) (S := S) (k := 53) (by decide)]; exact c53
  · exact by rw [evo_24 (u := u) (c := cd u) (X := X) (S := S) (k := 54) (by decide)]; exact c54
  · exact by rw [evo_24 (u := u) (c := cd u) (X := X) (S := S) (k := 9) (by decide)]; exact c9
  · exact by rw [evo_24 (u := u) (c := cd u) (X := X) (S := S) (k := 23) (by decide)]; exact c23
  · exact by rw [evo_24 (u := u) (c := cd u) (X := X) (S := S) (k := 43) (by decide)]; exact c43
  · exact by rw [evo_24 (u := u) (c := cd u) (X := X) (S := S) (k := 61) (by decide)]; exact c61
  · exact by rw [evo_24 (u := u) (c := cd u) (X := X) (S := S) (k := 49) (by decide)]; exact c49
  · exact by rw [evo_24 (u := u) (c := cd u) (X := X) (S := S) (k := 59) (by decide)]; exact c59
  · exact by rw [evo_24 (u := u) (c := cd u) (X := X) (S := S) (k := 39) (by decide)]; exact c39
  · exact by rw [evo_24 (u := u) (c := cd u) (X := X) (S := S) (k := 50) (by decide)]; exact c50
  · exact by rw [evo_24 (u := u) (c := cd u) (X := X) (S := S) (k := 35) (by decide)]; exact c35
  · exact by rw [evo_24 (u := u) (c := cd u) (X := X) (S := S) (k := 58) (by decide)]; exact c58
  · exact fun q => by omega
  · exact fun q _ => by rw [evo_24 (u := u) (c := cd u) (X := X) (S := S) (k := 30) (by decide)]; exact d1 q (gp 9 (by decide) (by rw [q]; decide))
  · exact fun q _ => by rw [evo_24 (u := u) (c := cd u) (X := X) (S := S) (k := 31) (by decide)]; exact d2 q (gp 9 (by decide) q)
  · exact fun q _ => by rw [evo_24 (u := u) (c := cd u) (X := X) (S := S) (k := 31) (by decide)]; exact d3 q (gp 21 (by decide) (by rw [q]; decide))
  · exact fun q _ => by rw [evo_24 (u := u) (c := cd u) (X := X) (S := S) (k := 47) (by decide)]; exact d4 q (gp 18 (by decide) q)
  · exact fun q _ => by rw [evo_24 (u := u) (c := cd u) (X := X) (S := S) (k := 48) (by decide)]; exact d5 q (gp 19 (by decide) (by rw [q]; decide))
  · exact fun q _ => by rw [evo_24 (u := u) (c := cd u) (X := X) (S := S) (k := 27) (by decide)]; exact d6 q (gp 8 (by decide) (by rw [q]; decide))
  · exact fun q _ => by rw [evo_24 (u := u) (c := cd u) (X := X) (S := S) (k := 27) (by decide)]; exact d7 q (gp 13 (by decide) (by rw [q]; decide))
  · exact fun q _ => by rw [evo_24 (u := u) (c := cd u) (X := X) (S := S) (k := 27) (by decide)]; exact d8 q (gp 14 (by decide) (by rw [q]; decide))
  · exact fun q _ => by rw [evo_24 (u := u) (c := cd u) (X := X) (S := S) (k := 27) (by decide)]; exact d9 q (gp 18 (by decide) q)
  · exact fun _ hl => absurd hl (by omega)
  · exact fun _ hl => absurd hl (by omega)
  · exact fun q => by omega
  · exact by rw [evo_24 (u := u) (c := cd u) (X := X) (S := S) (k := 5) (by decide)]; exact c5
theorem inv_25 {n : Nat} {cd : Nat → Nat} {u : Nat} {X : Nat → Int32} {lo Kd Ka Kn : Nat} {S : MI} (h : INV cd u X lo Kd Ka Kn S) (hn : n ≤ 20) (ft : FT n cd u X) (hc : cd u < 29) (hk : kin (cd u)) (hKd : Kd + 31 ≤ 1500) (hKa : Ka ≤ 900) (hil : isL (cd u) 25 = true) (hlo : lo ≤ 25) (gap : ∀ t, lo ≤ t → t < 25 → isL (cd u) t = false) : INV cd u X 26 Kd Ka Kn (lay_25 u (cd u) X S) := by
  obtain ⟨a0, a1, a2, a3, a4, b0, b1, b2, b3, c2, c4, c52, c53, c54, c9, c23, c43, c61, c49, c59, c39, c50, c35, c58, d0, d1, d2, d3, d4, d5, d6, d7, d8, d9, d10, d11, z, c5⟩ := h
  have gp : ∀ t, t < 25 → isL (cd u) t = true → t < lo := fun t h1 h2 => by
    rcases Nat.lt_or_ge t lo with q | q
    · exact q
    · rw [gap t q h1] at h2; cases h2
  refine ⟨?_, ?_, ?_, ?_, ?_, ?_, ?_, ?_, ?_, ?_, ?_, ?_, ?_, ?_, ?_, ?_, ?_, ?_, ?_, ?_, ?_, ?_, ?_, ?_, ?_, ?_, ?_, ?_, ?_, ?_, ?_, ?_, ?_, ?_, ?_, ?_, ?_, ?_⟩
  · exact by rw [evo_25 (u := u) (c := cd u) (X := X) (S := S) (k := 0) (by decide) (by decide)]; exact a0
  · exact fun _ => by rw [evo_25 (u := u) (c := cd u) (X := X) (S := S) (k := 1) (by decide) (by decide)]; exact a1 (gp 0 (by decide) ((show ∀ c, c < 29 → isL c 0 = true by decide) _ hc))
  · exact fun q => by rw [evo_25 (u := u) (c := cd u) (X := X) (S := S) (k := 12) (by decide) (by decide)]; exact a2 q
  · exact fun q => by rw [evo_25 (u := u) (c := cd u) (X := X) (S := S) (k := 46) (by decide) (by decide)]; exact a3 q
  · exact fun q => by rw [evo_25 (u := u) (c := cd u) (X := X) (S := S) (k := 55) (by decide) (by decide)]; exact a4 q
  · exact by rw [ev1_25_0]; exact b0.mono (by omega)
  · exact fun q => by omega
  · exact by rw [ev1_25_1]; exact b2
  · exact by rw [ev1_25_3]; exact (nn_one b3).mono (by omega)
  · exact by rw [evo_25 (u := u) (c := cd u) (X := X) (S := S) (k := 2) (by decide) (by decide)]; exact c2
  · exact by rw [evo_25 (u := u) (c := cd u) (X := X) (S := S) (k := 4) (by decide) (by decide)]; exact c4
  · exact by rw [evo_25 (u := u) (c := cd u) (X := X) (S := S) (k := 52) (by decide) (by decide)]; exact c52
  · exact by rw [evo_25 (u := u) (c := cd u) (X := X) (S := S) (k := 53) (by decide) (by decide)]; exact c53
  · exact by rw [evo_25 (u := u) (c := cd u) (X := X) (S := S) (k := 54) (by decide) (by decide)]; exact c54
  · exact by rw [evo_25 (u := u) (c := cd u) (X := X) (S := S) (k := 9) (by decide) (by decide)]; exact c9
  · exact by rw [evo_25 (u := u) (c := cd u) (X := X) (S := S) (k := 23) (by decide) (by decide)]; exact c23
  · exact by rw [evo_25 (u := u) (c := cd u) (X := X) (S := S) (k := 43) (by decide) (by decide)]; exact c43
  · exact by rw [evo_25 (u := u) (c := cd u) (X := X) (S := S) (k := 61) (by decide) (by decide)]; exact c61
  · exact by rw [evo_25 (u := u) (c := cd u) (X := X) (S := S) (k := 49) (by decide) (by decide)]; exact c49
  · exact by rw [evo_25 (u := u) (c := cd u) (X := X) (S := S) (k := 59) (by decide) (by decide)]; exact c59
  · exact by rw [evo_25 (u := u) (c := cd u) (X := X) (S := S) (k := 39) (by decide) (by decide)]; exact c39
  · exact by rw [evo_25 (u := u) (c := cd u) (X := X) (S := S) (k := 50) (by decide) (by decide)]; exact c50
  · exact by rw [evo_25 (u := u) (c := cd u) (X := X) (S := S) (k := 35) (by decide) (by decide)]; exact c35
  · exact by rw [evo_25 (u := u) (c := cd u) (X := X) (S := S) (k := 58) (by decide) (by decide)]; exact c58
  · exact fun q => by omega
  · exact fun q _ => by rw [evo_25 (u := u) (c := cd u) (X := X) (S := S) (k := 30) (by decide) (by decide)]; exact d1 q (gp 9 (by decide) (by rw [q]; decide))
  · exact fun q _ => by rw [evo_25 (u := u) (c := cd u) (X := X) (S := S) (k := 31) (by decide) (by decide)]; exact d2 q (gp 9 (by decide) q)
  · exact fun q _ => by rw [evo_25 (u := u) (c := cd u) (X := X) (S := S) (k := 31) (by decide) (by decide)]; exact d3 q (gp 21 (by decide) (by rw [q]; decide))
  · exact fun q _ => by rw [evo_25 (u := u) (c := cd u) (X := X) (S := S) (k := 47) (by decide) (by decide)]; exact d4 q (gp 18 (by decide) q)
  · exact fun q _ => by rw [evo_25 (u := u) (c := cd u) (X := X) (S := S) (k := 48) (by decide) (by decide)]; exact d5 q (gp 19 (by decide) (by rw [q]; decide))
  · exact fun q _ => (show False by rw [q] at hil; exact absurd hil (by decide)).elim
  · exact fun q _ => (show False by rw [q] at hil; exact absurd hil (by decide)).elim
  · exact fun q _ => (show False by rw [q] at hil; exact absurd hil (by decide)).elim
  · exact fun q _ => ((show ∀ c, c < 29 → kin c → isL c 25 = true → isL c 18 = true → False by unfold kin; decide) _ hc hk hil q).elim
  · exact fun q _ => ev_25_27
  · exact fun _ hl => absurd hl (by omega)
  · exact fun q => by omega
  · exact by rw [evo_25 (u := u) (c := cd u) (X := X) (S := S) (k := 5) (by decide) (by decide)]; exact c5
theorem inv_26 {n : Nat} {cd : Nat → Nat} {u : Nat} {X : Nat → Int32} {lo Kd Ka Kn : Nat} {S : MI} (h : INV cd u X lo Kd Ka Kn S) (hn : n ≤ 20) (ft : FT n cd u X) (hc : cd u < 29) (hk : kin (cd u)) (hKd : Kd + 31 ≤ 1500) (hKa : Ka ≤ 900) (hil : isL (cd u) 26 = true) (hlo : lo ≤ 26) (gap : ∀ t, lo ≤ t → t < 26 → isL (cd u) t = false) : INV cd u X 27 Kd Ka Kn (lay_26 u (cd u) X S) := by
  obtain ⟨a0, a1, a2, a3, a4, b0, b1, b2, b3, c2, c4, c52, c53, c54, c9, c23, c43, c61, c49, c59, c39, c50, c35, c58, d0, d1, d2, d3, d4, d5, d6, d7, d8, d9, d10, d11, z, c5⟩ := h
  have gp : ∀ t, t < 26 → isL (cd u) t = true → t < lo := fun t h1 h2 => by
    rcases Nat.lt_or_ge t lo with q | q
    · exact q
    · rw [gap t q h1] at h2; cases h2
  obtain ⟨vv, ww, hv, hw, x0, x1, -⟩ := ft.2.2.2.2.2.1 hil
  have one59 : nn (X 0) 19 := ⟨vv, by omega, x0⟩
  refine ⟨?_, ?_, ?_, ?_, ?_, ?_, ?_, ?_, ?_, ?_, ?_, ?_, ?_, ?_, ?_, ?_, ?_, ?_, ?_, ?_, ?_, ?_, ?_, ?_, ?_, ?_, ?_, ?_, ?_, ?_, ?_, ?_, ?_, ?_, ?_, ?_, ?_, ?_⟩
  · exact by rw [evo_26 (u := u) (c := cd u) (X := X) (S := S) (k := 0) (by decide) (by decide) (by decide)]; exact a0
  · exact fun _ => by rw [evo_26 (u := u) (c := cd u) (X := X) (S := S) (k := 1) (by decide) (by decide) (by decide)]; exact a1 (gp 0 (by decide) ((show ∀ c, c < 29 → isL c 0 = true by decide) _ hc))
  · exact fun q => by rw [evo_26 (u := u) (c := cd u) (X := X) (S := S) (k := 12) (by decide) (by decide) (by decide)]; exact a2 q
  · exact fun q => by rw [evo_26 (u := u) (c := cd u) (X := X) (S := S) (k := 46) (by decide) (by decide) (by decide)]; exact a3 q
  · exact fun q => by rw [evo_26 (u := u) (c := cd u) (X := X) (S := S) (k := 55) (by decide) (by decide) (by decide)]; exact a4 q
  · exact by rw [ev1_26_0]; exact (nn_one b0).mono (by omega)
  · exact fun q => by omega
  · exact by rw [ev1_26_1]; exact b2
  · exact by rw [ev1_26_3]; exact (nn_one b3).mono (by omega)
  · exact by rw [evo_26 (u := u) (c := cd u) (X := X) (S := S) (k := 2) (by decide) (by decide) (by decide)]; exact c2
  · exact by rw [evo_26 (u := u) (c := cd u) (X := X) (S := S) (k := 4) (by decide) (by decide) (by decide)]; exact c4
  · exact by rw [evo_26 (u := u) (c := cd u) (X := X) (S := S) (k := 52) (by decide) (by decide) (by decide)]; exact c52
  · exact by rw [evo_26 (u := u) (c := cd u) (X := X) (S := S) (k := 53) (by decide) (by decide) (by decide)]; exact c53
  · exact by rw [evo_26 (u := u) (c := cd u) (X := X) (S := S) (k := 54) (by decide) (by decide) (by decide)]; exact c54
  · exact by rw [evo_26 (u := u) (c := cd u) (X := X) (S := S) (k := 9) (by decide) (by decide) (by decide)]; exact c9
  · exact by rw [evo_26 (u := u) (c := cd u) (X := X) (S := S) (k := 23) (by decide) (by decide) (by decide)]; exact c23
  · exact by rw [evo_26 (u := u) (c := cd u) (X := X) (S := S) (k := 43) (by decide) (by decide) (by decide)]; exact c43
  · exact by rw [evo_26 (u := u) (c := cd u) (X := X) (S := S) (k := 61) (by decide) (by decide) (by decide)]; exact c61
  · exact by rw [evo_26 (u := u) (c := cd u) (X := X) (S := S) (k := 49) (by decide) (by decide) (by decide)]; exact c49
  · exact by rw [ev_26_59]; exact one59
  · exact by rw [evo_26 (u := u) (c := cd u) (X := X) (S := S) (k := 39) (by decide) (by decide) (by decide)]; exact c39
  · exact by rw [evo_26 (u := u) (c := cd u) (X := X) (S := S) (k := 50) (by decide) (by decide) (by decide)]; exact c50
  · exact by rw [evo_26 (u := u) (c := cd u) (X := X) (S := S) (k := 35) (by decide) (by decide) (by decide)]; exact c35
  · exact by rw [ev_26_58]; exact (by rw [span26 hk hc hil]; exact (nn_add (nn_add (⟨1, by decide, rfl⟩ : nn 1 1) (nn_iR (d := 2) (c59.mono (by decide)) (by decide) (by decide))) (nn_iR (d := 2) (((nn_one b0).mono (by omega) : nn (S 1 0 + 1) 2000000000)) (by decide) (by decide))).mono (by decide))
  · exact fun q => by omega
  · exact fun q _ => by rw [evo_26 (u := u) (c := cd u) (X := X) (S := S) (k := 30) (by decide) (by decide) (by decide)]; exact d1 q (gp 9 (by decide) (by rw [q]; decide))
  · exact fun q _ => by rw [evo_26 (u := u) (c := cd u) (X := X) (S := S) (k := 31) (by decide) (by decide) (by decide)]; exact d2 q (gp 9 (by decide) q)
  · exact fun q _ => by rw [evo_26 (u := u) (c := cd u) (X := X) (S := S) (k := 31) (by decide) (by decide) (by decide)]; exact d3 q (gp 21 (by decide) (by rw [q]; decide))
  · exact fun q _ => by rw [evo_26 (u := u) (c := cd u) (X := X) (S := S) (k := 47) (by decide) (by decide) (by decide)]; exact d4 q (gp 18 (by decide) q)
  · exact fun q _ => by rw [evo_26 (u := u) (c := cd u) (X := X) (S := S) (k := 48) (by decide) (by decide) (by decide)]; exact d5 q (gp 19 (by decide) (by rw [q]; decide))
  · exact fun q _ => by rw [evo_26 (u := u) (c := cd u) (X := X) (S := S) (k := 27) (by decide) (by decide) (by decide)]; exact d6 q (gp 8 (by decide) (by rw [q]; decide))
  · exact fun q _ => by rw [evo_26 (u := u) (c := cd u) (X := X) (S := S) (k := 27) (by decide) (by decide) (by decide)]; exact d7 q (gp 13 (by decide) (by rw [q]; decide))
  · exact fun q _ => by rw [evo_26 (u := u) (c := cd u) (X := X) (S := S) (k := 27) (by decide) (by decide) (by decide)]; exact d8 q (gp 14 (by decide) (by rw [q]; decide))
  · exact fun q _ => by rw [evo_26 (u := u) (c := cd u) (X := X) (S := S) (k := 27) (by decide) (by decide) (by decide)]; exact d9 q (gp 18 (by decide) q)
  · exact fun q _ => by rw [evo_26 (u := u) (c := cd u) (X := X) (S := S) (k := 27) (by decide) (by decide) (by decide)]; exact d10 q (gp 25 (by decide) (by rw [q]; decide))
  · exact fun _ _ => ⟨ev_26_59, ev_26_60⟩
  · exact fun q => by omega
  · exact by rw [evo_26 (u := u) (c := cd u) (X := X) (S := S) (k := 5) (by decide) (by decide) (by decide)]; exact c5
theorem inv_27 {n : Nat} {cd : Nat → Nat} {u : Nat} {X : Nat → Int32} {lo Kd Ka Kn : Nat} {S : MI} (h : INV cd u X lo Kd Ka Kn S) (hn : n ≤ 20) (ft : FT n cd u X) (hc : cd u < 29) (hk : kin (cd u)) (hKd : Kd + 31 ≤ 1500) (hKa : Ka ≤ 900) (hil : isL (cd u) 27 = true) (hlo : lo ≤ 27) (gap : ∀ t, lo ≤ t → t < 27 → isL (cd u) t = false) : INV cd u X 28 Kd Ka Kn (lay_27 u (cd u) X S) := by
  obtain ⟨a0, a1, a2, a3, a4, b0, b1, b2, b3, c2, c4, c52, c53, c54, c9, c23, c43, c61, c49, c59, c39, c50, c35, c58, d0, d1, d2, d3, d4, d5, d6, d7, d8, d9, d10, d11, z, c5⟩ := h
  have gp : ∀ t, t < 27 → isL (cd u) t = true → t < lo := fun t h1 h2 => by
    rcases Nat.lt_or_ge t lo with q | q
    · exact q
    · rw [gap t q h1] at h2; cases h2
  refine ⟨?_, ?_, ?_, ?_, ?_, ?_, ?_, ?_, ?_, ?_, ?_, ?_, ?_, ?_, ?_, ?_, ?_, ?_, ?_, ?_, ?_, ?_, ?_, ?_, ?_, ?_, ?_, ?_, ?_, ?_, ?_, ?_, ?_, ?_, ?_, ?_, ?_, ?_⟩
  · exact by rw [evo_27 (u := u) (c := cd u) (X := X) (S := S) (k := 0) (by decide)]; exact a0
  · exact fun _ => by rw [evo_27 (u := u) (c := cd u) (X := X) (S := S) (k := 1) (by decide)]; exact a1 (gp 0 (by decide) ((show ∀ c, c < 29 → isL c 0 = true by decide) _ hc))
  · exact fun q => by rw [evo_27 (u := u) (c := cd u) (X := X) (S := S) (k := 12) (by decide)]; exact a2 q
  · exact fun q => by rw [evo_27 (u := u) (c := cd u) (X := X) (S := S) (k := 46) (by decide)]; exact a3 q
  · exact fun q => by rw [evo_27 (u := u) (c := cd u) (X := X) (S := S) (k := 55) (by decide)]; exact a4 q
  · exact by rw [ev1_27_0]; exact b0.mono (by omega)
  · exact fun q => by omega
  · exact by rw [ev1_27_1]; exact b2
  · exact by rw [ev1_27_3]; exact (nn_one b3).mono (by omega)
  · exact by rw [evo_27 (u := u) (c := cd u) (X := X) (S := S) (k := 2) (by decide)]; exact c2
  · exact by rw [evo_27 (u := u) (c := cd u) (X := X) (S := S) (k := 4) (by decide)]; exact c4
  · exact by rw [evo_27 (u := u) (c := cd u) (X := X) (S := S) (k := 52) (by decide)]; exact c52
  · exact by rw [evo_27 (u := u) (c := cd u) (X := X) (S := S) (k := 53) (by decide)]; exact c53
  · exact by rw [evo_27 (u := u) (c := cd u) (X := X) (S := S) (k := 54) (by decide)]; exact c54
  · exact by rw [evo_27 (u := u) (c := cd u) (X := X) (S := S) (k := 9) (by decide)]; exact c9
  · exact by rw [evo_27 (u := u) (c := cd u) (X := X) (S := S) (k := 23) (by decide)]; exact c23
  · exact by rw [evo_27 (u := u) (c := cd u) (X := X) (S := S) (k := 43) (by decide)]; exact c43
  · exact by rw [ev_27_61]; exact (nn_add c58 (⟨2, by decide, rfl⟩ : nn 2 2)).mono (by decide)
  · exact by rw [evo_27 (u := u) (c := cd u) (X := X) (S := S) (k := 49) (by decide)]; exact c49
  · exact by rw [evo_27 (u := u) (c := cd u) (X := X) (S := S) (k := 59) (by decide)]; exact c59
  · exact by rw [evo_27 (u := u) (c := cd u) (X := X) (S := S) (k := 39) (by decide)]; exact c39
  · exact by rw [evo_27 (u := u) (c := cd u) (X := X) (S := S) (k := 50) (by decide)]; exact c50
  · exact by rw [evo_27 (u := u) (c := cd u) (X := X) (S := S) (k := 35) (by decide)]; exact c35
  · exact by rw [evo_27 (u := u) (c := cd u) (X := X) (S := S) (k := 58) (by decide)]; exact c58
  · exact fun q => by omega
  · exact fun q _ => by rw [evo_27 (u := u) (c := cd u) (X := X) (S := S) (k := 30) (by decide)]; exact d1 q (gp 9 (by decide) (by rw [q]; decide))
  · exact fun q _ => by rw [evo_27 (u := u) (c := cd u) (X := X) (S := S) (k := 31) (by decide)]; exact d2 q (gp 9 (by decide) q)
  · exact fun q _ => by rw [evo_27 (u := u) (c := cd u) (X := X) (S := S) (k := 31) (by decide)]; exact d3 q (gp 21 (by decide) (by rw [q]; decide))
  · exact fun q _ => by rw [evo_27 (u := u) (c := cd u) (X := X) (S := S) (k := 47) (by decide)]; exact d4 q (gp 18 (by decide) q)
  · exact fun q _ => by rw [evo_27 (u := u) (c := cd u) (X := X) (S := S) (k := 48) (by decide)]; exact d5 q (gp 19 (by decide) (by rw [q]; decide))
  · exact fun q _ => by rw [evo_27 (u := u) (c := cd u) (X := X) (S := S) (k := 27) (by decide)]; exact d6 q (gp 8 (by decide) (by rw [q]; decide))
  · exact fun q _ => by rw [evo_27 (u := u) (c := cd u) (X := X) (S := S) (k := 27) (by decide)]; exact d7 q (gp 13 (by decide) (by rw [q]; decide))
  · exact fun q _ => by rw [evo_27 (u := u) (c := cd u) (X := X) (S := S) (k := 27) (by decide)]; exact d8 q (gp 14 (by decide) (by rw [q]; decide))
  · exact fun q _ => by rw [evo_27 (u := u) (c := cd u) (X := X) (S := S) (k := 27) (by decide)]; exact d9 q (gp 18 (by decide) q)
  · exact fun q _ => by rw [evo_27 (u := u) (c := cd u) (X := X) (S := S) (k := 27) (by decide)]; exact d10 q (gp 25 (by decide) (by rw [q]; decide))
  · exact fun q _ => ⟨by rw [evo_27 (u := u) (c := cd u) (X := X) (S := S) (k := 59) (by decide)]; exact (d11 q (gp 26 (by decide) q)).1, by rw [evo_27 (u := u) (c := cd u) (X := X) (S := S) (k := 60) (by decide)]; exact (d11 q (gp 26 (by decide) q)).2⟩
  · exact fun q => by omega
  · exact by rw [evo_27 (u := u) (c := cd u) (X := X) (S := S) (k := 5) (by decide)]; exact c5
theorem inv_28 {n : Nat} {cd : Nat → Nat} {u : Nat} {X : Nat → Int32} {lo Kd Ka Kn : Nat} {S : MI} (h : INV cd u X lo Kd Ka Kn S) (hn : n ≤ 20) (ft : FT n cd u X) (hc : cd u < 29) (hk : kin (cd u)) (hKd : Kd + 31 ≤ 1500) (hKa : Ka ≤ 900) (hil : isL (cd u) 28 = true) (hlo : lo ≤ 28) (gap : ∀ t, lo ≤ t → t < 28 → isL (cd u) t = false) : INV cd u X 29 Kd Ka Kn (lay_28 u (cd u) X S) := by
  obtain ⟨a0, a1, a2, a3, a4, b0, b1, b2, b3, c2, c4, c52, c53, c54, c9, c23, c43, c61, c49, c59, c39, c50, c35, c58, d0, d1, d2, d3, d4, d5, d6, d7, d8, d9, d10, d11, z, c5⟩ := h
  have gp : ∀ t, t < 28 → isL (cd u) t = true → t < lo := fun t h1 h2 => by
    rcases Nat.lt_or_ge t lo with q | q
    · exact q
    · rw [gap t q h1] at h2; cases h2
  refine ⟨?_, ?_, ?_, ?_, ?_, ?_, ?_, ?_, ?_, ?_, ?_, ?_, ?_, ?_, ?_, ?_, ?_, ?_, ?_, ?_, ?_, ?_, ?_, ?_, ?_, ?_, ?_, ?_, ?_, ?_, ?_, ?_, ?_, ?_, ?_, ?_, ?_, ?_⟩
  · exact by rw [evo_28 (u := u) (c := cd u) (X := X) (S := S) (k := 0) (by decide)]; exact a0
  · exact fun _ => by rw [evo_28 (u := u) (c := cd u) (X := X) (S := S) (k := 1) (by decide)]; exact a1 (gp 0 (by decide) ((show ∀ c, c < 29 → isL c 0 = true by decide) _ hc))
  · exact fun q => by rw [evo_28 (u := u) (c := cd u) (X := X) (S := S) (k := 12) (by decide)]; exact a2 q
  · exact fun q => by rw [evo_28 (u := u) (c := cd u) (X := X) (S := S) (k := 46) (by decide)]; exact a3 q
  · exact fun q => by rw [evo_28 (u := u) (c := cd u) (X := X) (S := S) (k := 55) (by decide)]; exact a4 q
  · exact by rw [ev1_28_0]; exact b0.mono (by omega)
  · exact fun q => by omega
  · exact by rw [ev1_28_1]; exact b2
  · exact by rw [ev1_28_3]; exact (nn_one b3).mono (by omega)
  · exact by rw [evo_28 (u := u) (c := cd u) (X := X) (S := S) (k := 2) (by decide)]; exact c2
  · exact by rw [evo_28 (u := u) (c := cd u) (X := X) (S := S) (k := 4) (by decide)]; exact c4
  · exact by rw [evo_28 (u := u) (c := cd u) (X := X) (S := S) (k := 52) (by decide)]; exact c52
  · exact by rw [evo_28 (u := u) (c := cd u) (X := X) (S := S) (k := 53) (by decide)]; exact c53
  · exact by rw [evo_28 (u := u) (c := cd u) (X := X) (S := S) (k := 54) (by decide)]; exact c54
  · exact by rw [evo_28 (u := u) (c := cd u) (X := X) (S := S) (k := 9) (by decide)]; exact c9
  · exact by rw [evo_28 (u := u) (c := cd u) (X := X) (S := S) (k := 23) (by decide)]; exact c23
  · exact by rw [evo_28 (u := u) (c := cd u) (X := X) (S := S) (k := 43) (by decide)]; exact c43
  · exact by rw [ev_28_61]; exact (nn_add c58 (ft.2.2.2.2.2.2.1 ((show ∀ c, c < 29 → isL c 28 = true → c = 28 by decide) _ hc hil)).nn).mono (by decide)
  · exact by rw [evo_28 (u := u) (c := cd u) (X := X) (S := S) (k := 49) (by decide)]; exact c49
  · exact by rw [evo_28 (u := u) (c := cd u) (X := X) (S := S) (k := 59) (by decide)]; exact c59
  · exact by rw [evo_28 (u := u) (c := cd u) (X := X) (S := S) (k := 39) (by decide)]; exact c39
  · exact by rw [evo_28 (u := u) (c := cd u) (X := X) (S := S) (k := 50) (by decide)]; exact c50
  · exact by rw [evo_28 (u := u) (c := cd u) (X := X) (S := S) (k := 35) (by decide)]; exact c35
  · exact by rw [evo_28 (u := u) (c := cd u) (X := X) (S := S) (k := 58) (by decide)]; exact c58
  · exact fun q => by omega
  · exact fun q _ => by rw [evo_28 (u := u) (c := cd u) (X := X) (S := S) (k := 30) (by decide)]; exact d1 q (gp 9 (by decide) (by rw [q]; decide))
  · exact fun q _ => by rw [evo_28 (u := u) (c := cd u) (X := X) (S := S) (k := 31) (by decide)]; exact d2 q (gp 9 (by decide) q)
  · exact fun q _ => by rw [evo_28 (u := u) (c := cd u) (X := X) (S := S) (k := 31) (by decide)]; exact d3 q (gp 21 (by decide) (by rw [q]; decide))
  · exact fun q _ => by rw [evo_28 (u := u) (c := cd u) (X := X) (S := S) (k := 47) (by decide)]; exact d4 q (gp 18 (by decide) q)
  · exact fun q _ => by rw [evo_28 (u := u) (c := cd u) (X := X) (S := S) (k := 48) (by decide)]; exact d5 q (gp 19 (by decide) (by rw [q]; decide))
  · exact fun q _ => by rw [evo_28 (u := u) (c := cd u) (X := X) (S := S) (k := 27) (by decide)]; exact d6 q (gp 8 (by decide) (by rw [q]; decide))
  · exact fun q _ => by rw [evo_28 (u := u) (c := cd u) (X := X) (S := S) (k := 27) (by decide)]; exact d7 q (gp 13 (by decide) (by rw [q]; decide))
  · exact fun q _ => by rw [evo_28 (u := u) (c := cd u) (X := X) (S := S) (k := 27) (by decide)]; exact d8 q (gp 14 (by decide) (by rw [q]; decide))
  · exact fun q _ => by rw [evo_28 (u := u) (c := cd u) (X := X) (S := S) (k := 27) (by decide)]; exact d9 q (gp 18 (by decide) q)
  · exact fun q _ => by rw [evo_28 (u := u) (c := cd u) (X := X) (S := S) (k := 27) (by decide)]; exact d10 q (gp 25 (by decide) (by rw [q]; decide))
  · exact fun q _ => ⟨by rw [evo_28 (u := u) (c := cd u) (X := X) (S := S) (k := 59) (by decide)]; exact (d11 q (gp 26 (by decide) q)).1, by rw [evo_28 (u := u) (c := cd u) (X := X) (S := S) (k := 60) (by decide)]; exact (d11 q (gp 26 (by decide) q)).2⟩
  · exact fun q => by omega
  · exact by rw [evo_28 (u := u) (c := cd u) (X := X) (S := S) (k := 5) (by decide)]; exact c5
