theorem upE_eq {E : Nat → va_E} {p j : Nat} {x : va_E} (h : j = p) : upE E p x j = x := by subst h; exact upE_at
theorem eF_0 {cA : Nat → ClassId} {bs : Nat} {sa : Nat → Nat} {E : Nat → va_E} : EF1 cA bs E 0 = ce cA (adF bs sa) I0 L0 (GRf 0) 0 := by
  unfold EF1 E_X11_init
  rw [upE_eq (by decide)]
  rfl
theorem eF_1 {cA : Nat → ClassId} {bs : Nat} {sa : Nat → Nat} {E : Nat → va_E} : EF1 cA bs E 1 = ce cA (adF bs sa) I0 L0 (GRf 0) 1 := by
  unfold EF1 E_X11_init
  rw [upE_ne (by decide)]
  rw [E_X5_init_ne (by decide) (by decide)]
  rw [upE_ne (by decide)]
  rw [upE_ne (by decide)]
  rw [E_X2_init_ne (by decide) (by decide)]
  rw [upE_ne (by decide)]
  rw [upE_ne (by decide)]
  rw [upE_ne (by decide)]
  rw [E_X0_init_ne (by decide) (by decide)]
  rw [upE_ne (by decide)]
  rw [upE_ne (by decide)]
  rw [E_X8_init_ne (by decide) (by decide)]
  rw [upE_ne (by decide)]
  unfold E_X10_init
  rw [LyE_ne (by decide) (by decide)]
  unfold E0_X10_init
  rw [upE_eq (by decide)]
  rfl
theorem eF_2 {cA : Nat → ClassId} {bs : Nat} {sa : Nat → Nat} {E : Nat → va_E} : EF1 cA bs E 2 = ce cA (adF bs sa) I0 L0 (GRf 0) 2 := by
  unfold EF1 E_X11_init
  rw [upE_ne (by decide)]
  rw [E_X5_init_ne (by decide) (by decide)]
  rw [upE_ne (by decide)]
  rw [upE_ne (by decide)]
  rw [E_X2_init_ne (by decide) (by decide)]
  rw [upE_ne (by decide)]
  rw [upE_ne (by decide)]
  rw [upE_ne (by decide)]
  rw [E_X0_init_ne (by decide) (by decide)]
  rw [upE_ne (by decide)]
  rw [upE_ne (by decide)]
  rw [E_X8_init_ne (by decide) (by decide)]
  rw [upE_ne (by decide)]
  unfold E_X10_init
  rw [LyE_pa (by decide)]
  rw [ce_U (by decide)]
  have e9 : (fun y => if y < 20 then some (bs + (1 + 1 + 6 + 4 * y)) else none) = fun j => (GRf 0 2 j).map (adF bs sa) := by
    funext y
    by_cases h : y < 20
    · rw [if_pos h, show GRf 0 2 y = some (U y) by simp [GRf, h], Option.map_some]
      have e8 : adF bs sa (U y) = bs + (8 + 4 * y) := by
        unfold adF ordN U
        rw [if_pos (by omega), if_neg (by omega), if_neg (by omega), if_neg (by omega), if_neg (by omega), if_neg (by omega), if_pos (by omega)]
        omega
      rw [e8]
      congr 2
      omega
    · rw [if_neg h, show GRf 0 2 y = none by simp [GRf, h]]
      rfl
  rw [e9]
  rfl
theorem eF_3 {cA : Nat → ClassId} {bs : Nat} {sa : Nat → Nat} {E : Nat → va_E} : EF1 cA bs E 7 = ce cA (adF bs sa) I0 L0 (GRf 0) 3 := by
  unfold EF1 E_X11_init
  rw [upE_ne (by decide)]
  rw [E_X5_init_ne (by decide) (by decide)]
  rw [upE_ne (by decide)]
  rw [upE_ne (by decide)]
  rw [E_X2_init_ne (by decide) (by decide)]
  rw [upE_ne (by decide)]
  rw [upE_ne (by decide)]
  rw [upE_ne (by decide)]
  rw [E_X0_init_ne (by decide) (by decide)]
  rw [upE_ne (by decide)]
  rw [upE_ne (by decide)]
  rw [E_X8_init_ne (by decide) (by decide)]
  rw [upE_ne (by decide)]
  unfold E_X10_init
  rw [LyE_ne (by decide) (by decide)]
  unfold E0_X10_init
  rw [upE_ne (by decide)]
  rw [upE_eq (by decide)]
  rfl
theorem eF_4 {cA : Nat → ClassId} {bs : Nat} {sa : Nat → Nat} {E : Nat → va_E} : EF1 cA bs E 88 = ce cA (adF bs sa) I0 L0 (GRf 0) 4 := by
  unfold EF1 E_X11_init
  rw [upE_ne (by decide)]
  rw [E_X5_init_ne (by decide) (by decide)]
  rw [upE_ne (by decide)]
  rw [upE_ne (by decide)]
  rw [E_X2_init_ne (by decide) (by decide)]
  rw [upE_ne (by decide)]
  rw [upE_ne (by decide)]
  rw [upE_ne (by decide)]
  rw [E_X0_init_ne (by decide) (by decide)]
  rw [upE_ne (by decide)]
  rw [upE_ne (by decide)]
  unfold E_X8_init
  rw [upE_eq (by decide)]
  rfl
theorem eF_5 {cA : Nat → ClassId} {bs : Nat} {sa : Nat → Nat} {E : Nat → va_E} : EF1 cA bs E 89 = ce cA (adF bs sa) I0 L0 (GRf 0) 5 := by
  unfold EF1 E_X11_init
  rw [upE_ne (by decide)]
  rw [E_X5_init_ne (by decide) (by decide)]
  rw [upE_ne (by decide)]
  rw [upE_ne (by decide)]
  rw [E_X2_init_ne (by decide) (by decide)]
  rw [upE_ne (by decide)]
  rw [upE_ne (by decide)]
  rw [upE_ne (by decide)]
  rw [E_X0_init_ne (by decide) (by decide)]
  rw [upE_ne (by decide)]
  rw [upE_ne (by decide)]
  unfold E_X8_init
  rw [upE_ne (by decide)]
  rw [upE_ne (by decide)]
  rw [upE_eq (by decide)]
  rfl
theorem eF_6 {cA : Nat → ClassId} {bs : Nat} {sa : Nat → Nat} {E : Nat → va_E} : EF1 cA bs E 90 = ce cA (adF bs sa) I0 L0 (GRf 0) 6 := by
  unfold EF1 E_X11_init
  rw [upE_ne (by decide)]
  rw [E_X5_init_ne (by decide) (by decide)]
  rw [upE_ne (by decide)]
  rw [upE_ne (by decide)]
  rw [E_X2_init_ne (by decide) (by decide)]
  rw [upE_ne (by decide)]
  rw [upE_ne (by decide)]
  rw [upE_ne (by decide)]
  unfold E_X0_init
  rw [upE_eq (by decide)]
  rfl
theorem eF_7 {cA : Nat → ClassId} {bs : Nat} {sa : Nat → Nat} {E : Nat → va_E} : EF1 cA bs E 91 = ce cA (adF bs sa) I0 L0 (GRf 0) 7 := by
  unfold EF1 E_X11_init
  rw [upE_ne (by decide)]
  rw [E_X5_init_ne (by decide) (by decide)]
  rw [upE_ne (by decide)]
  rw [upE_ne (by decide)]
  rw [E_X2_init_ne (by decide) (by decide)]
  rw [upE_ne (by decide)]
  rw [upE_ne (by decide)]
  rw [upE_ne (by decide)]
  unfold E_X0_init
  rw [upE_ne (by decide)]
  rw [upE_ne (by decide)]
  rw [upE_ne (by decide)]
  rw [upE_ne (by decide)]
  rw [upE_ne (by decide)]
  rw [upE_eq (by decide)]
  rfl
theorem eF_8 {cA : Nat → ClassId} {bs : Nat} {sa : Nat → Nat} {E : Nat → va_E} : EF1 cA bs E 92 = ce cA (adF bs sa) I0 L0 (GRf 0) 8 := by
  unfold EF1 E_X11_init
  rw [upE_ne (by decide)]
  rw [E_X5_init_ne (by decide) (by decide)]
  rw [upE_ne (by decide)]
  rw [upE_ne (by decide)]
  rw [E_X2_init_ne (by decide) (by decide)]
  rw [upE_ne (by decide)]
  rw [upE_ne (by decide)]
  rw [upE_ne (by decide)]
  unfold E_X0_init
  rw [upE_ne (by decide)]
  rw [upE_ne (by decide)]
  rw [upE_ne (by decide)]
  rw [upE_eq (by decide)]
  rfl
theorem eF_9 {cA : Nat → ClassId} {bs : Nat} {sa : Nat → Nat} {E : Nat → va_E} : EF1 cA bs E 93 = ce cA (adF bs sa) I0 L0 (GRf 0) 9 := by
  unfold EF1 E_X11_init
  rw [upE_ne (by decide)]
  rw [E_X5_init_ne (by decide) (by decide)]
  rw [upE_ne (by decide)]
  rw [upE_ne (by decide)]
  rw [E_X2_init_ne (by decide) (by decide)]
  rw [upE_ne (by decide)]
  rw [upE_ne (by decide)]
  rw [upE_ne (by decide)]
  unfold E_X0_init
  rw [upE_ne (by decide)]
  rw [upE_eq (by decide)]
  rfl
theorem eF_10 {cA : Nat → ClassId} {bs : Nat} {sa : Nat → Nat} {E : Nat → va_E} : EF1 cA bs E 94 = ce cA (adF bs sa) I0 L0 (GRf 0) 10 := by
  unfold EF1 E_X11_init
  rw [upE_ne (by decide)]
  rw [E_X5_init_ne (by decide) (by decide)]
  rw [upE_ne (by decide)]
  rw [upE_ne (by decide)]
  unfold E_X2_init
  rw [upE_eq (by decide)]
  rfl
theorem eF_11 {cA : Nat → ClassId} {bs : Nat} {sa : Nat → Nat} {E : Nat → va_E} : EF1 cA bs E 95 = ce cA (adF bs sa) I0 L0 (GRf 0) 11 := by
  unfold EF1 E_X11_init
  rw [upE_ne (by decide)]
  rw [E_X5_init_ne (by decide) (by decide)]
  rw [upE_ne (by decide)]
  rw [upE_ne (by decide)]
  unfold E_X2_init
  rw [upE_ne (by decide)]
  rw [E_X5_init_ne (by decide) (by decide)]
  rw [upE_ne (by decide)]
  rw [upE_ne (by decide)]
  rw [E_X1_init_ne (by decide) (by decide)]
  rw [upE_ne (by decide)]
  rw [upE_ne (by decide)]
  rw [E_X6_init_ne (by decide) (by decide)]
  rw [upE_ne (by decide)]
  rw [upE_ne (by decide)]
  rw [E_X7_init_ne (by decide) (by decide)]
  rw [upE_ne (by decide)]
  rw [upE_ne (by decide)]
  rw [upE_ne (by decide)]
  rw [upE_eq (by decide)]
  rfl
theorem eF_12 {cA : Nat → ClassId} {bs : Nat} {sa : Nat → Nat} {E : Nat → va_E} : EF1 cA bs E 96 = ce cA (adF bs sa) I0 L0 (GRf 0) 12 := by
  unfold EF1 E_X11_init
  rw [upE_ne (by decide)]
  rw [E_X5_init_ne (by decide) (by decide)]
  rw [upE_ne (by decide)]
  rw [upE_ne (by decide)]
  unfold E_X2_init
  rw [upE_ne (by decide)]
  rw [E_X5_init_ne (by decide) (by decide)]
  rw [upE_ne (by decide)]
  rw [upE_ne (by decide)]
  rw [E_X1_init_ne (by decide) (by decide)]
  rw [upE_ne (by decide)]
  rw [upE_ne (by decide)]
  rw [E_X6_init_ne (by decide) (by decide)]
  rw [upE_ne (by decide)]
  rw [upE_ne (by decide)]
  unfold E_X7_init
  rw [upE_eq (by decide)]
  rfl
theorem eF_13 {cA : Nat → ClassId} {bs : Nat} {sa : Nat → Nat} {E : Nat → va_E} : EF1 cA bs E 97 = ce cA (adF bs sa) I0 L0 (GRf 0) 13 := by
  unfold EF1 E_X11_init
  rw [upE_ne (by decide)]
  rw [E_X5_init_ne (by decide) (by decide)]
  rw [upE_ne (by decide)]
  rw [upE_ne (by decide)]
  unfold E_X2_init
  rw [upE_ne (by decide)]
  rw [E_X5_init_ne (by decide) (by decide)]
  rw [upE_ne (by decide)]
  rw [upE_ne (by decide)]
  rw [E_X1_init_ne (by decide) (by decide)]
  rw [upE_ne (by decide)]
  rw [upE_ne (by decide)]
  rw [E_X6_init_ne (by decide) (by decide)]
  rw [upE_ne (by decide)]
  rw [upE_ne (by decide)]
  unfold E_X7_init
  rw [upE_ne (by decide)]
  rw [upE_ne (by decide)]
  rw [upE_ne (by decide)]
  rw [upE_ne (by decide)]
  rw [upE_ne (by decide)]
  rw [upE_ne (by decide)]
  rw [upE_eq (by decide)]
  rfl
theorem eF_14 {cA : Nat → ClassId} {bs : Nat} {sa : Nat → Nat} {E : Nat → va_E} : EF1 cA bs E 98 = ce cA (adF bs sa) I0 L0 (GRf 0) 14 := by
  unfold EF1 E_X11_init
  rw [upE_ne (by decide)]
  rw [E_X5_init_ne (by decide) (by decide)]
  rw [upE_ne (by decide)]
  rw [upE_ne (by decide)]
  unfold E_X2_init
  rw [upE_ne (by decide)]
  rw [E_X5_init_ne (by decide) (by decide)]
  rw [upE_ne (by decide)]
  rw [upE_ne (by decide)]
  rw [E_X1_init_ne (by decide) (by decide)]
  rw [upE_ne (by decide)]
  rw [upE_ne (by decide)]
  rw [E_X6_init_ne (by decide) (by decide)]
  rw [upE_ne (by decide)]
  rw [upE_ne (by decide)]
  unfold E_X7_init
  rw [upE_ne (by decide)]
  rw [upE_ne (by decide)]
  rw [upE_ne (by decide)]
  rw [upE_ne (by decide)]
  rw [upE_eq (by decide)]
  rfl
theorem eF_15 {cA : Nat → ClassId} {bs : Nat} {sa : Nat → Nat} {E : Nat → va_E} : EF1 cA bs E 99 = ce cA (adF bs sa) I0 L0 (GRf 0) 15 := by
  unfold EF1 E_X11_init
  rw [upE_ne (by decide)]
  rw [E_X5_init_ne (by decide) (by decide)]
  rw [upE_ne (by decide)]
  rw [upE_ne (by decide)]
  unfold E_X2_init
  rw [upE_ne (by decide)]
  rw [E_X5_init_ne (by decide) (by decide)]
  rw [upE_ne (by decide)]
  rw [upE_ne (by decide)]
  rw [E_X1_init_ne (by decide) (by decide)]
  rw [upE_ne (by decide)]
  rw [upE_ne (by decide)]
  rw [E_X6_init_ne (by decide) (by decide)]
  rw [upE_ne (by decide)]
  rw [upE_ne (by decide)]
  unfold E_X7_init
  rw [upE_ne (by decide)]
  rw [upE_ne (by decide)]
  rw [upE_eq (by decide)]
  rfl
theorem eF_16 {cA : Nat → ClassId} {bs : Nat} {sa : Nat → Nat} {E : Nat → va_E} : EF1 cA bs E 100 = ce cA (adF bs sa) I0 L0 (GRf 0) 16 := by
  unfold EF1 E_X11_init
  rw [upE_ne (by decide)]
  rw [E_X5_init_ne (by decide) (by decide)]
  rw [upE_ne (by decide)]
  rw [upE_ne (by decide)]
  unfold E_X2_init
  rw [upE_ne (by decide)]
  rw [E_X5_init_ne (by decide) (by decide)]
  rw [upE_ne (by decide)]
  rw [upE_ne (by decide)]
  rw [E_X1_init_ne (by decide) (by decide)]
  rw [upE_ne (by decide)]
  rw [upE_ne (by decide)]
  unfold E_X6_init
  rw [upE_eq (by decide)]
  rfl
theorem eF_17 {cA : Nat → ClassId} {bs : Nat} {sa : Nat → Nat} {E : Nat → va_E} : EF1 cA bs E 101 = ce cA (adF bs sa) I0 L0 (GRf 0) 17 := by
  unfold EF1 E_X11_init
  rw [upE_ne (by decide)]
  rw [E_X5_init_ne (by decide) (by decide)]
  rw [upE_ne (by decide)]
  rw [upE_ne (by decide)]
  unfold E_X2_init
  rw [upE_ne (by decide)]
  rw [E_X5_init_ne (by decide) (by decide)]
  rw [upE_ne (by decide)]
  rw [upE_ne (by decide)]
  rw [E_X1_init_ne (by decide) (by decide)]
  rw [upE_ne (by decide)]
  rw [upE_ne (by decide)]
  unfold E_X6_init
  rw [upE_ne (by decide)]
  rw [upE_ne (by decide)]
  rw [upE_eq (by decide)]
  rfl
theorem eF_18 {cA : Nat → ClassId} {bs : Nat} {sa : Nat → Nat} {E : Nat → va_E} : EF1 cA bs E 102 = ce cA (adF bs sa) I0 L0 (GRf 0) 18 := by
  unfold EF1 E_X11_init
  rw [upE_ne (by decide)]
  rw [E_X5_init_ne (by decide) (by decide)]
  rw [upE_ne (by decide)]
  rw [upE_ne (by decide)]
  unfold E_X2_init
  rw [upE_ne (by decide)]
  rw [E_X5_init_ne (by decide) (by decide)]
  rw [upE_ne (by decide)]
  rw [upE_ne (by decide)]
  unfold E_X1_init
  rw [upE_eq (by decide)]
  rfl
theorem eF_19 {cA : Nat → ClassId} {bs : Nat} {sa : Nat → Nat} {E : Nat → va_E} : EF1 cA bs E 103 = ce cA (adF bs sa) I0 L0 (GRf 0) 19 := by
  unfold EF1 E_X11_init
  rw [upE_ne (by decide)]
  rw [E_X5_init_ne (by decide) (by decide)]
  rw [upE_ne (by decide)]
  rw [upE_ne (by decide)]
  unfold E_X2_init
  rw [upE_ne (by decide)]
  rw [E_X5_init_ne (by decide) (by decide)]
  rw [upE_ne (by decide)]
  rw [upE_ne (by decide)]
  unfold E_X1_init
  rw [upE_ne (by decide)]
  rw [upE_eq (by decide)]
  rfl
theorem eF_20 {cA : Nat → ClassId} {bs : Nat} {sa : Nat → Nat} {E : Nat → va_E} : EF1 cA bs E 104 = ce cA (adF bs sa) I0 L0 (GRf 0) 20 := by
  unfold EF1 E_X11_init
  rw [upE_ne (by decide)]
  rw [E_X5_init_ne (by decide) (by decide)]
  rw [upE_ne (by decide)]
  rw [upE_ne (by decide)]
  unfold E_X2_init
  rw [upE_ne (by decide)]
  unfold E_X5_init
  rw [LpE_ne (by decide) (by decide)]
  unfold E0_X5_init
  rw [upE_eq (by decide)]
  rfl
theorem eF_21 {cA : Nat → ClassId} {bs : Nat} {sa : Nat → Nat} {E : Nat → va_E} : EF1 cA bs E 105 = ce cA (adF bs sa) I0 L0 (GRf 0) 21 := by
  unfold EF1 E_X11_init
  rw [upE_ne (by decide)]
  rw [E_X5_init_ne (by decide) (by decide)]
  rw [upE_ne (by decide)]
  rw [upE_ne (by decide)]
  unfold E_X2_init
  rw [upE_ne (by decide)]
  unfold E_X5_init
  rw [LpE_pa (by decide)]
  rw [ce_T (by decide)]
  have e9 : (fun y => if y < 30 then some (bs + (1 + 94 + 10 + 2 + y)) else none) = fun j => (GRf 0 21 j).map (adF bs sa) := by
    funext y
    by_cases h : y < 30
    · rw [if_pos h, show GRf 0 21 y = some (142 + y) by simp [GRf, h], Option.map_some]
      have e8 : adF bs sa (142 + y) = bs + (107 + y) := by
        unfold adF ordN
        rw [if_pos (by omega), if_neg (by omega), if_neg (by omega), if_neg (by omega), if_neg (by omega), if_neg (by omega), if_neg (by omega), if_neg (by omega), if_pos (by omega)]
        omega
      rw [e8]
      congr 2
      omega
    · rw [if_neg h, show GRf 0 21 y = none by simp [GRf, h]]
      rfl
  rw [e9]
  rfl
theorem eF_22 {cA : Nat → ClassId} {bs : Nat} {sa : Nat → Nat} {E : Nat → va_E} : EF1 cA bs E 137 = ce cA (adF bs sa) I0 L0 (GRf 0) 22 := by
  unfold EF1 E_X11_init
  rw [upE_ne (by decide)]
  unfold E_X5_init
  rw [LpE_ne (by decide) (by decide)]
  unfold E0_X5_init
  rw [upE_eq (by decide)]
  rfl
theorem eF_23 {cA : Nat → ClassId} {bs : Nat} {sa : Nat → Nat} {E : Nat → va_E} : EF1 cA bs E 138 = ce cA (adF bs sa) I0 L0 (GRf 0) 23 := by
  unfold EF1 E_X11_init
  rw [upE_ne (by decide)]
  unfold E_X5_init
  rw [LpE_pa (by decide)]
  rw [ce_T (by decide)]
  have e9 : (fun y => if y < 30 then some (bs + (1 + 137 + 2 + y)) else none) = fun j => (GRf 0 23 j).map (adF bs sa) := by
    funext y
    by_cases h : y < 30
    · rw [if_pos h, show GRf 0 23 y = some (173 + y) by simp [GRf, h], Option.map_some]
      have e8 : adF bs sa (173 + y) = bs + (140 + y) := by
        unfold adF ordN
        rw [if_pos (by omega), if_neg (by omega), if_neg (by omega), if_neg (by omega), if_neg (by omega), if_neg (by omega), if_neg (by omega), if_neg (by omega), if_neg (by omega), if_neg (by omega), if_pos (by omega)]
        omega
      rw [e8]
      congr 2
      omega
    · rw [if_neg h, show GRf 0 23 y = none by simp [GRf, h]]
      rfl
  rw [e9]
  rfl
theorem eF_58 {cA : Nat → ClassId} {bs : Nat} {sa : Nat → Nat} {E : Nat → va_E} : EF1 cA bs E 8 = ce cA (adF bs sa) I0 L0 (GRf 0) 58 := by
  unfold EF1 E_X11_init
  rw [upE_ne (by decide)]
  rw [E_X5_init_ne (by decide) (by decide)]
  rw [upE_ne (by decide)]
  rw [upE_ne (by decide)]
  rw [E_X2_init_ne (by decide) (by decide)]
  rw [upE_ne (by decide)]
  rw [upE_ne (by decide)]
  rw [upE_ne (by decide)]
  rw [E_X0_init_ne (by decide) (by decide)]
  rw [upE_ne (by decide)]
  rw [upE_ne (by decide)]
  rw [E_X8_init_ne (by decide) (by decide)]
  rw [upE_ne (by decide)]
  unfold E_X10_init
  unfold LyE
  rw [if_pos (by decide)]
  show uE cA bs 8 0 = _
  unfold uE E_X9_init
  rw [upE_eq (by decide)]
  rfl
theorem eF_59 {cA : Nat → ClassId} {bs : Nat} {sa : Nat → Nat} {E : Nat → va_E} : EF1 cA bs E 9 = ce cA (adF bs sa) I0 L0 (GRf 0) 59 := by
  unfold EF1 E_X11_init
  rw [upE_ne (by decide)]
  rw [E_X5_init_ne (by decide) (by decide)]
  rw [upE_ne (by decide)]
  rw [upE_ne (by decide)]
  rw [E_X2_init_ne (by decide) (by decide)]
  rw [upE_ne (by decide)]
  rw [upE_ne (by decide)]
  rw [upE_ne (by decide)]
  rw [E_X0_init_ne (by decide) (by decide)]
  rw [upE_ne (by decide)]
  rw [upE_ne (by decide)]
  rw [E_X8_init_ne (by decide) (by decide)]
  rw [upE_ne (by decide)]
  unfold E_X10_init
  unfold LyE
  rw [if_pos (by decide)]
  show uE cA bs 8 1 = _
  unfold uE E_X9_init
  rw [upE_ne (by decide)]
  rw [upE_ne (by decide)]
  rw [upE_ne (by decide)]
  rw [upE_ne (by decide)]
  rw [upE_ne (by decide)]
  rw [upE_eq (by decide)]
  rfl
theorem eF_60 {cA : Nat → ClassId} {bs : Nat} {sa : Nat → Nat} {E : Nat → va_E} : EF1 cA bs E 10 = ce cA (adF bs sa) I0 L0 (GRf 0) 60 := by
  unfold EF1 E_X11_init
  rw [upE_ne (by decide)]
  rw [E_X5_init_ne (by decide) (by decide)]
  rw [upE_ne (by decide)]
  rw [upE_ne (by decide)]
  rw [E_X2_init_ne (by decide) (by decide)]
  rw [upE_ne (by decide)]
  rw [upE_ne (by decide)]
  rw [upE_ne (by decide)]
  rw [E_X0_init_ne (by decide) (by decide)]
  rw [upE_ne (by decide)]
  rw [upE_ne (by decide)]
  rw [E_X8_init_ne (by decide) (by decide)]
  rw [upE_ne (by decide)]
  unfold E_X10_init
  unfold LyE
  rw [if_pos (by decide)]
  show uE cA bs 8 2 = _
  unfold uE E_X9_init
  rw [upE_ne (by decide)]
  rw [upE_ne (by decide)]
  rw [upE_ne (by decide)]
  rw [upE_eq (by decide)]
  rfl
theorem eF_61 {cA : Nat → ClassId} {bs : Nat} {sa : Nat → Nat} {E : Nat → va_E} : EF1 cA bs E 11 = ce cA (adF bs sa) I0 L0 (GRf 0) 61 := by
  unfold EF1 E_X11_init
  rw [upE_ne (by decide)]
  rw [E_X5_init_ne (by decide) (by decide)]
  rw [upE_ne (by decide)]
  rw [upE_ne (by decide)]
  rw [E_X2_init_ne (by decide) (by decide)]
  rw [upE_ne (by decide)]
  rw [upE_ne (by decide)]
  rw [upE_ne (by decide)]
  rw [E_X0_init_ne (by decide) (by decide)]
  rw [upE_ne (by decide)]
  rw [upE_ne (by decide)]
  rw [E_X8_init_ne (by decide) (by decide)]
  rw [upE_ne (by decide)]
  unfold E_X10_init
  unfold LyE
  rw [if_pos (by decide)]
  show uE cA bs 8 3 = _
  unfold uE E_X9_init
  rw [upE_ne (by decide)]
  rw [upE_eq (by decide)]
  rfl
theorem eF_62 {cA : Nat → ClassId} {bs : Nat} {sa : Nat → Nat} {E : Nat → va_E} : EF1 cA bs E 12 = ce cA (adF bs sa) I0 L0 (GRf 0) 62 := by
  unfold EF1 E_X11_init
  rw [upE_ne (by decide)]
  rw [E_X5_init_ne (by decide) (by decide)]
  rw [upE_ne (by decide)]
  rw [upE_ne (by decide)]
  rw [E_X2_init_ne (by decide) (by decide)]
  rw [upE_ne (by decide)]
  rw [upE_ne (by decide)]
  rw [upE_ne (by decide)]
  rw [E_X0_init_ne (by decide) (by decide)]
  rw [upE_ne (by decide)]
  rw [upE_ne (by decide)]
  rw [E_X8_init_ne (by decide) (by decide)]
  rw [upE_ne (by decide)]
  unfold E_X10_init
  unfold LyE
  rw [if_pos (by decide)]
  show uE cA bs 12 0 = _
  unfold uE E_X9_init
  rw [upE_eq (by decide)]
  rfl
theorem eF_63 {cA : Nat → ClassId} {bs : Nat} {sa : Nat → Nat} {E : Nat → va_E} : EF1 cA bs E 13 = ce cA (adF bs sa) I0 L0 (GRf 0) 63 := by
  unfold EF1 E_X11_init
  rw [upE_ne (by decide)]
  rw [E_X5_init_ne (by decide) (by decide)]
  rw [upE_ne (by decide)]
  rw [upE_ne (by decide)]
  rw [E_X2_init_ne (by decide) (by decide)]
  rw [upE_ne (by decide)]
  rw [upE_ne (by decide)]
  rw [upE_ne (by decide)]
  rw [E_X0_init_ne (by decide) (by decide)]
  rw [upE_ne (by decide)]
  rw [upE_ne (by decide)]
  rw [E_X8_init_ne (by decide) (by decide)]
  rw [upE_ne (by decide)]
  unfold E_X10_init
  unfold LyE
  rw [if_pos (by decide)]
  show uE cA bs 12 1 = _
  unfold uE E_X9_init
  rw [upE_ne (by decide)]
  rw [upE_ne (by decide)]
  rw [upE_ne (by decide)]
  rw [upE_ne (by decide)]
  rw [upE_ne (by decide)]
  rw [upE_eq (by decide)]
  rfl
theorem eF_64 {cA : Nat → ClassId} {bs : Nat} {sa : Nat → Nat} {E : Nat → va_E} : EF1 cA bs E 14 = ce cA (adF bs sa) I0 L0 (GRf 0) 64 := by
  unfold EF1 E_X11_init
  rw [upE_ne (by decide)]
  rw [E_X5_init_ne (by decide) (by decide)]
  rw [upE_ne (by decide)]
  rw [upE_ne (by decide)]
  rw [E_X2_init_ne (by decide) (by decide)]
  rw [upE_ne (by decide)]
  rw [upE_ne (by decide)]
  rw [upE_ne (by decide)]
  rw [E_X0_init_ne (by decide) (by decide)]
  rw [upE_ne (by decide)]
  rw [upE_ne (by decide)]
  rw [E_X8_init_ne (by decide) (by decide)]
  rw [upE_ne (by decide)]
  unfold E_X10_init
  unfold LyE
  rw [if_pos (by decide)]
  show uE cA bs 12 2 = _
  unfold uE E_X9_init
  rw [upE_ne (by decide)]
  rw [upE_ne (by decide)]
  rw [upE_ne (by decide)]
  rw [upE_eq (by decide)]
  rfl
theorem eF_65 {cA : Nat → ClassId} {bs : Nat} {sa : Nat → Nat} {E : Nat → va_E} : EF1 cA bs E 15 = ce cA (adF bs sa) I0 L0 (GRf 0) 65 := by
  unfold EF1 E_X11_init
  rw [upE_ne (by decide)]
  rw [E_X5_init_ne (by decide) (by decide)]
  rw [upE_ne (by decide)]
  rw [upE_ne (by decide)]
  rw [E_X2_init_ne (by decide) (by decide)]
  rw [upE_ne (by decide)]
  rw [upE_ne (by decide)]
  rw [upE_ne (by decide)]
  rw [E_X0_init_ne (by decide) (by decide)]
  rw [upE_ne (by decide)]
  rw [upE_ne (by decide)]
  rw [E_X8_init_ne (by decide) (by decide)]
  rw [upE_ne (by decide)]
  unfold E_X10_init
  unfold LyE
  rw [if_pos (by decide)]
  show uE cA bs 12 3 = _
  unfold uE E_X9_init
  rw [upE_ne (by decide)]
  rw [upE_eq (by decide)]
  rfl
theorem eF_66 {cA : Nat → ClassId} {bs : Nat} {sa : Nat → Nat} {E : Nat → va_E} : EF1 cA bs E 16 = ce cA (adF bs sa) I0 L0 (GRf 0) 66 := by
  unfold EF1 E_X11_init
  rw [upE_ne (by decide)]
  rw [E_X5_init_ne (by decide) (by decide)]
  rw [upE_ne (by decide)]
  rw [upE_ne (by decide)]
  rw [E_X2_init_ne (by decide) (by decide)]
  rw [upE_ne (by decide)]
  rw [upE_ne (by decide)]
  rw [upE_ne (by decide)]
  rw [E_X0_init_ne (by decide) (by decide)]
  rw [upE_ne (by decide)]
  rw [upE_ne (by decide)]
  rw [E_X8_init_ne (by decide) (by decide)]
  rw [upE_ne (by decide)]
  unfold E_X10_init
  unfold LyE
  rw [if_pos (by decide)]
  show uE cA bs 16 0 = _
  unfold uE E_X9_init
  rw [upE_eq (by decide)]
  rfl
theorem eF_67 {cA : Nat → ClassId} {bs : Nat} {sa : Nat → Nat} {E : Nat → va_E} : EF1 cA bs E 17 = ce cA (adF bs sa) I0 L0 (GRf 0) 67 := by
  unfold EF1 E_X11_init
  rw [upE_ne (by decide)]
  rw [E_X5_init_ne (by decide) (by decide)]
  rw [upE_ne (by decide)]
  rw [upE_ne (by decide)]
  rw [E_X2_init_ne (by decide) (by decide)]
  rw [upE_ne (by decide)]
  rw [upE_ne (by decide)]
  rw [upE_ne (by decide)]
  rw [E_X0_init_ne (by decide) (by decide)]
  rw [upE_ne (by decide)]
  rw [upE_ne (by decide)]
  rw [E_X8_init_ne (by decide) (by decide)]
  rw [upE_ne (by decide)]
  unfold E_X10_init
  unfold LyE
  rw [if_pos (by decide)]
  show uE cA bs 16 1 = _
  unfold uE E_X9_init
  rw [upE_ne (by decide)]
  rw [upE_ne (by decide)]
  rw [upE_ne (by decide)]
  rw [upE_ne (by decide)]
  rw [upE_ne (by decide)]
  rw [upE_eq (by decide)]
  rfl
theorem eF_68 {cA : Nat → ClassId} {bs : Nat} {sa : Nat → Nat} {E : Nat → va_E} : EF1 cA bs E 18 = ce cA (adF bs sa) I0 L0 (GRf 0) 68 := by
  unfold EF1 E_X11_init
  rw [upE_ne (by decide)]
  rw [E_X5_init_ne (by decide) (by decide)]
  rw [upE_ne (by decide)]
  rw [upE_ne (by decide)]
  rw [E_X2_init_ne (by decide) (by decide)]
  rw [upE_ne (by decide)]
  rw [upE_ne (by decide)]
  rw [upE_ne (by decide)]
  rw [E_X0_init_ne (by decide) (by decide)]
  rw [upE_ne (by decide)]
  rw [upE_ne (by decide)]
  rw [E_X8_init_ne (by decide) (by decide)]
  rw [upE_ne (by decide)]
  unfold E_X10_init
  unfold LyE
  rw [if_pos (by decide)]
  show uE cA bs 16 2 = _
  unfold uE E_X9_init
  rw [upE_ne (by decide)]
  rw [upE_ne (by decide)]
  rw [upE_ne (by decide)]
  rw [upE_eq (by decide)]
  rfl
theorem eF_69 {cA : Nat → ClassId} {bs : Nat} {sa : Nat → Nat} {E : Nat → va_E} : EF1 cA bs E 19 = ce cA (adF bs sa) I0 L0 (GRf 0) 69 := by
  unfold EF1 E_X11_init
  rw [upE_ne (by decide)]
  rw [E_X5_init_ne (by decide) (by decide)]
  rw [upE_ne (by decide)]
  rw [upE_ne (by decide)]
  rw [E_X2_init_ne (by decide) (by decide)]
  rw [upE_ne (by decide)]
  rw [upE_ne (by decide)]
  rw [upE_ne (by decide)]
  rw [E_X0_init_ne (by decide) (by decide)]
  rw [upE_ne (by decide)]
  rw [upE_ne (by decide)]
  rw [E_X8_init_ne (by decide) (by decide)]
  rw [upE_ne (by decide)]
  unfold E_X10_init
  unfold LyE
  rw [if_pos (by decide)]
  show uE cA bs 16 3 = _
  unfold uE E_X9_init
  rw [upE_ne (by decide)]
  rw [upE_eq (by decide)]
  rfl
theorem eF_70 {cA : Nat → ClassId} {bs : Nat} {sa : Nat → Nat} {E : Nat → va_E} : EF1 cA bs E 20 = ce cA (adF bs sa) I0 L0 (GRf 0) 70 := by
  unfold EF1 E_X11_init
  rw [upE_ne (by decide)]
  rw [E_X5_init_ne (by decide) (by decide)]
  rw [upE_ne (by decide)]
  rw [upE_ne (by decide)]
  rw [E_X2_init_ne (by decide) (by decide)]
  rw [upE_ne (by decide)]
  rw [upE_ne (by decide)]
  rw [upE_ne (by decide)]
  rw [E_X0_init_ne (by decide) (by decide)]
  rw [upE_ne (by decide)]
  rw [upE_ne (by decide)]
  rw [E_X8_init_ne (by decide) (by decide)]
  rw [upE_ne (by decide)]
  unfold E_X10_init
  unfold LyE
  rw [if_pos (by decide)]
  show uE cA bs 20 0 = _
  unfold uE E_X9_init
  rw [upE_eq (by decide)]
  rfl
theorem eF_71 {cA : Nat → ClassId} {bs : Nat} {sa : Nat → Nat} {E : Nat → va_E} : EF1 cA bs E 21 = ce cA (adF bs sa) I0 L0 (GRf 0) 71 := by
  unfold EF1 E_X11_init
  rw [upE_ne (by decide)]
  rw [E_X5_init_ne (by decide) (by decide)]
  rw [upE_ne (by decide)]
  rw [upE_ne (by decide)]
  rw [E_X2_init_ne (by decide) (by decide)]
  rw [upE_ne (by decide)]
  rw [upE_ne (by decide)]
  rw [upE_ne (by decide)]
  rw [E_X0_init_ne (by decide) (by decide)]
  rw [upE_ne (by decide)]
  rw [upE_ne (by decide)]
  rw [E_X8_init_ne (by decide) (by decide)]
  rw [upE_ne (by decide)]
  unfold E_X10_init
  unfold LyE
  rw [if_pos (by decide)]
  show uE cA bs 20 1 = _
  unfold uE E_X9_init
  rw [upE_ne (by decide)]
  rw [upE_ne (by decide)]
  rw [upE_ne (by decide)]
  rw [upE_ne (by decide)]
  rw [upE_ne (by decide)]
  rw [upE_eq (by decide)]
  rfl
theorem eF_72 {cA : Nat → ClassId} {bs : Nat} {sa : Nat → Nat} {E : Nat → va_E} : EF1 cA bs E 22 = ce cA (adF bs sa) I0 L0 (GRf 0) 72 := by
  unfold EF1 E_X11_init
  rw [upE_ne (by decide)]
  rw [E_X5_init_ne (by decide) (by decide)]
  rw [upE_ne (by decide)]
  rw [upE_ne (by decide)]
  rw [E_X2_init_ne (by decide) (by decide)]
  rw [upE_ne (by decide)]
  rw [upE_ne (by decide)]
  rw [upE_ne (by decide)]
  rw [E_X0_init_ne (by decide) (by decide)]
  rw [upE_ne (by decide)]
  rw [upE_ne (by decide)]
  rw [E_X8_init_ne (by decide) (by decide)]
  rw [upE_ne (by decide)]
  unfold E_X10_init
  unfold LyE
  rw [if_pos (by decide)]
  show uE cA bs 20 2 = _
  unfold uE E_X9_init
  rw [upE_ne (by decide)]
  rw [upE_ne (by decide)]
  rw [upE_ne (by decide)]
  rw [upE_eq (by decide)]
  rfl
theorem eF_73 {cA : Nat → ClassId} {bs : Nat} {sa : Nat → Nat} {E : Nat → va_E} : EF1 cA bs E 23 = ce cA (adF bs sa) I0 L0 (GRf 0) 73 := by
  unfold EF1 E_X11_init
  rw [upE_ne (by decide)]
  rw [E_X5_init_ne (by decide) (by decide)]
  rw [upE_ne (by decide)]
  rw [upE_ne (by decide)]
  rw [E_X2_init_ne (by decide) (by decide)]
  rw [upE_ne (by decide)]
  rw [upE_ne (by decide)]
  rw [upE_ne (by decide)]
  rw [E_X0_init_ne (by decide) (by decide)]
  rw [upE_ne (by decide)]
  rw [upE_ne (by decide)]
  rw [E_X8_init_ne (by decide) (by decide)]
  rw [upE_ne (by decide)]
  unfold E_X10_init
  unfold LyE
  rw [if_pos (by decide)]
  show uE cA bs 20 3 = _
  unfold uE E_X9_init
  rw [upE_ne (by decide)]
  rw [upE_eq (by decide)]
  rfl
theorem eF_74 {cA : Nat → ClassId} {bs : Nat} {sa : Nat → Nat} {E : Nat → va_E} : EF1 cA bs E 24 = ce cA (adF bs sa) I0 L0 (GRf 0) 74 := by
  unfold EF1 E_X11_init
  rw [upE_ne (by decide)]
  rw [E_X5_init_ne (by decide) (by decide)]
  rw [upE_ne (by decide)]
  rw [upE_ne (by decide)]
  rw [E_X2_init_ne (by decide) (by decide)]
  rw [upE_ne (by decide)]
  rw [upE_ne (by decide)]
  rw [upE_ne (by decide)]
  rw [E_X0_init_ne (by decide) (by decide)]
  rw [upE_ne (by decide)]
  rw [upE_ne (by decide)]
  rw [E_X8_init_ne (by decide) (by decide)]
  rw [upE_ne (by decide)]
  unfold E_X10_init
  unfold LyE
  rw [if_pos (by decide)]
  show uE cA bs 24 0 = _
  unfold uE E_X9_init
  rw [upE_eq (by decide)]
  rfl
theorem eF_75 {cA : Nat → ClassId} {bs : Nat} {sa : Nat → Nat} {E : Nat → va_E} : EF1 cA bs E 25 = ce cA (adF bs sa) I0 L0 (GRf 0) 75 := by
  unfold EF1 E_X11_init
  rw [upE_ne (by decide)]
  rw [E_X5_init_ne (by decide) (by decide)]
  rw [upE_ne (by decide)]
  rw [upE_ne (by decide)]
  rw [E_X2_init_ne (by decide) (by decide)]
  rw [upE_ne (by decide)]
  rw [upE_ne (by decide)]
  rw [upE_ne (by decide)]
  rw [E_X0_init_ne (by decide) (by decide)]
  rw [upE_ne (by decide)]
  rw [upE_ne (by decide)]
  rw [E_X8_init_ne (by decide) (by decide)]
  rw [upE_ne (by decide)]
  unfold E_X10_init
  unfold LyE
  rw [if_pos (by decide)]
  show uE cA bs 24 1 = _
  unfold uE E_X9_init
  rw [upE_ne (by decide)]
  rw [upE_ne (by decide)]
  rw [upE_ne (by decide)]
  rw [upE_ne (by decide)]
  rw [upE_ne (by decide)]
  rw [upE_eq (by decide)]
  rfl
theorem eF_76 {cA : Nat → ClassId} {bs : Nat} {sa : Nat → Nat} {E : Nat → va_E} : EF1 cA bs E 26 = ce cA (adF bs sa) I0 L0 (GRf 0) 76 := by
  unfold EF1 E_X11_init
  rw [upE_ne (by decide)]
  rw [E_X5_init_ne (by decide) (by decide)]
  rw [upE_ne (by decide)]
  rw [upE_ne (by decide)]
  rw [E_X2_init_ne (by decide) (by decide)]
  rw [upE_ne (by decide)]
  rw [upE_ne (by decide)]
  rw [upE_ne (by decide)]
  rw [E_X0_init_ne (by decide) (by decide)]
  rw [upE_ne (by decide)]
  rw [upE_ne (by decide)]
  rw [E_X8_init_ne (by decide) (by decide)]
  rw [upE_ne (by decide)]
  unfold E_X10_init
  unfold LyE
  rw [if_pos (by decide)]
  show uE cA bs 24 2 = _
  unfold uE E_X9_init
  rw [upE_ne (by decide)]
  rw [upE_ne (by decide)]
  rw [upE_ne (by decide)]
  rw [upE_eq (by decide)]
  rfl
theorem eF_77 {cA : Nat → ClassId} {bs : Nat} {sa : Nat → Nat} {E : Nat → va_E} : EF1 cA bs E 27 = ce cA (adF bs sa) I0 L0 (GRf 0) 77 := by
  unfold EF1 E_X11_init
  rw [upE_ne (by decide)]
  rw [E_X5_init_ne (by decide) (by decide)]
  rw [upE_ne (by decide)]
  rw [upE_ne (by decide)]
  rw [E_X2_init_ne (by decide) (by decide)]
  rw [upE_ne (by decide)]
  rw [upE_ne (by decide)]
  rw [upE_ne (by decide)]
  rw [E_X0_init_ne (by decide) (by decide)]
  rw [upE_ne (by decide)]
  rw [upE_ne (by decide)]
  rw [E_X8_init_ne (by decide) (by decide)]
  rw [upE_ne (by decide)]
  unfold E_X10_init
  unfold LyE
  rw [if_pos (by decide)]
  show uE cA bs 24 3 = _
  unfold uE E_X9_init
  rw [upE_ne (by decide)]
  rw [upE_eq (by decide)]
  rfl
theorem eF_78 {cA : Nat → ClassId} {bs : Nat} {sa : Nat → Nat} {E : Nat → va_E} : EF1 cA bs E 28 = ce cA (adF bs sa) I0 L0 (GRf 0) 78 := by
  unfold EF1 E_X11_init
  rw [upE_ne (by decide)]
  rw [E_X5_init_ne (by decide) (by decide)]
  rw [upE_ne (by decide)]
  rw [upE_ne (by decide)]
  rw [E_X2_init_ne (by decide) (by decide)]
  rw [upE_ne (by decide)]
  rw [upE_ne (by decide)]
  rw [upE_ne (by decide)]
  rw [E_X0_init_ne (by decide) (by decide)]
  rw [upE_ne (by decide)]
  rw [upE_ne (by decide)]
  rw [E_X8_init_ne (by decide) (by decide)]
  rw [upE_ne (by decide)]
  unfold E_X10_init
  unfold LyE
  rw [if_pos (by decide)]
  show uE cA bs 28 0 = _
  unfold uE E_X9_init
  rw [upE_eq (by decide)]
  rfl
theorem eF_79 {cA : Nat → ClassId} {bs : Nat} {sa : Nat → Nat} {E : Nat → va_E} : EF1 cA bs E 29 = ce cA (adF bs sa) I0 L0 (GRf 0) 79 := by
  unfold EF1 E_X11_init
  rw [upE_ne (by decide)]
  rw [E_X5_init_ne (by decide) (by decide)]
  rw [upE_ne (by decide)]
  rw [upE_ne (by decide)]
  rw [E_X2_init_ne (by decide) (by decide)]
  rw [upE_ne (by decide)]
  rw [upE_ne (by decide)]
  rw [upE_ne (by decide)]
  rw [E_X0_init_ne (by decide) (by decide)]
  rw [upE_ne (by decide)]
  rw [upE_ne (by decide)]
  rw [E_X8_init_ne (by decide) (by decide)]
  rw [upE_ne (by decide)]
  unfold E_X10_init
  unfold LyE
  rw [if_pos (by decide)]
  show uE cA bs 28 1 = _
  unfold uE E_X9_init
  rw [upE_ne (by decide)]
  rw [upE_ne (by decide)]
  rw [upE_ne (by decide)]
  rw [upE_ne (by decide)]
  rw [upE_ne (by decide)]
  rw [upE_eq (by decide)]
  rfl
theorem eF_80 {cA : Nat → ClassId} {bs : Nat} {sa : Nat → Nat} {E : Nat → va_E} : EF1 cA bs E 30 = ce cA (adF bs sa) I0 L0 (GRf 0) 80 := by
  unfold EF1 E_X11_init
  rw [upE_ne (by decide)]
  rw [E_X5_init_ne (by decide) (by decide)]
  rw [upE_ne (by decide)]
  rw [upE_ne (by decide)]
  rw [E_X2_init_ne (by decide) (by decide)]
  rw [upE_ne (by decide)]
  rw [upE_ne (by decide)]
  rw [upE_ne (by decide)]
  rw [E_X0_init_ne (by decide) (by decide)]
  rw [upE_ne (by decide)]
  rw [upE_ne (by decide)]
  rw [E_X8_init_ne (by decide) (by decide)]
  rw [upE_ne (by decide)]
  unfold E_X10_init
  unfold LyE
  rw [if_pos (by decide)]
  show uE cA bs 28 2 = _
  unfold uE E_X9_init
  rw [upE_ne (by decide)]
  rw [upE_ne (by decide)]
  rw [upE_ne (by decide)]
  rw [upE_eq (by decide)]
  rfl
theorem eF_81 {cA : Nat → ClassId} {bs : Nat} {sa : Nat → Nat} {E : Nat → va_E} : EF1 cA bs E 31 = ce cA (adF bs sa) I0 L0 (GRf 0) 81 := by
  unfold EF1 E_X11_init
  rw [upE_ne (by decide)]
  rw [E_X5_init_ne (by decide) (by decide)]
  rw [upE_ne (by decide)]
  rw [upE_ne (by decide)]
  rw [E_X2_init_ne (by decide) (by decide)]
  rw [upE_ne (by decide)]
  rw [upE_ne (by decide)]
  rw [upE_ne (by decide)]
  rw [E_X0_init_ne (by decide) (by decide)]
  rw [upE_ne (by decide)]
  rw [upE_ne (by decide)]
  rw [E_X8_init_ne (by decide) (by decide)]
  rw [upE_ne (by decide)]
  unfold E_X10_init
  unfold LyE
  rw [if_pos (by decide)]
  show uE cA bs 28 3 = _
  unfold uE E_X9_init
  rw [upE_ne (by decide)]
  rw [upE_eq (by decide)]
  rfl
theorem eF_82 {cA : Nat → ClassId} {bs : Nat} {sa : Nat → Nat} {E : Nat → va_E} : EF1 cA bs E 32 = ce cA (adF bs sa) I0 L0 (GRf 0) 82 := by
  unfold EF1 E_X11_init
  rw [upE_ne (by decide)]
  rw [E_X5_init_ne (by decide) (by decide)]
  rw [upE_ne (by decide)]
  rw [upE_ne (by decide)]
  rw [E_X2_init_ne (by decide) (by decide)]
  rw [upE_ne (by decide)]
  rw [upE_ne (by decide)]
  rw [upE_ne (by decide)]
  rw [E_X0_init_ne (by decide) (by decide)]
  rw [upE_ne (by decide)]
  rw [upE_ne (by decide)]
  rw [E_X8_init_ne (by decide) (by decide)]
  rw [upE_ne (by decide)]
  unfold E_X10_init
  unfold LyE
  rw [if_pos (by decide)]
  show uE cA bs 32 0 = _
  unfold uE E_X9_init
  rw [upE_eq (by decide)]
  rfl
theorem eF_83 {cA : Nat → ClassId} {bs : Nat} {sa : Nat → Nat} {E : Nat → va_E} : EF1 cA bs E 33 = ce cA (adF bs sa) I0 L0 (GRf 0) 83 := by
  unfold EF1 E_X11_init
  rw [upE_ne (by decide)]
  rw [E_X5_init_ne (by decide) (by decide)]
  rw [upE_ne (by decide)]
  rw [upE_ne (by decide)]
  rw [E_X2_init_ne (by decide) (by decide)]
  rw [upE_ne (by decide)]
  rw [upE_ne (by decide)]
  rw [upE_ne (by decide)]
  rw [E_X0_init_ne (by decide) (by decide)]
  rw [upE_ne (by decide)]
  rw [upE_ne (by decide)]
  rw [E_X8_init_ne (by decide) (by decide)]
  rw [upE_ne (by decide)]
  unfold E_X10_init
  unfold LyE
  rw [if_pos (by decide)]
  show uE cA bs 32 1 = _
  unfold uE E_X9_init
  rw [upE_ne (by decide)]
  rw [upE_ne (by decide)]
  rw [upE_ne (by decide)]
  rw [upE_ne (by decide)]
  rw [upE_ne (by decide)]
  rw [upE_eq (by decide)]
  rfl
theorem eF_84 {cA : Nat → ClassId} {bs : Nat} {sa : Nat → Nat} {E : Nat → va_E} : EF1 cA bs E 34 = ce cA (adF bs sa) I0 L0 (GRf 0) 84 := by
  unfold EF1 E_X11_init
  rw [upE_ne (by decide)]
  rw [E_X5_init_ne (by decide) (by decide)]
  rw [upE_ne (by decide)]
  rw [upE_ne (by decide)]
  rw [E_X2_init_ne (by decide) (by decide)]
  rw [upE_ne (by decide)]
  rw [upE_ne (by decide)]
  rw [upE_ne (by decide)]
  rw [E_X0_init_ne (by decide) (by decide)]
  rw [upE_ne (by decide)]
  rw [upE_ne (by decide)]
  rw [E_X8_init_ne (by decide) (by decide)]
  rw [upE_ne (by decide)]
  unfold E_X10_init
  unfold LyE
  rw [if_pos (by decide)]
  show uE cA bs 32 2 = _
  unfold uE E_X9_init
  rw [upE_ne (by decide)]
  rw [upE_ne (by decide)]
  rw [upE_ne (by decide)]
  rw [upE_eq (by decide)]
  rfl
theorem eF_85 {cA : Nat → ClassId} {bs : Nat} {sa : Nat → Nat} {E : Nat → va_E} : EF1 cA bs E 35 = ce cA (adF bs sa) I0 L0 (GRf 0) 85 := by
  unfold EF1 E_X11_init
  rw [upE_ne (by decide)]
  rw [E_X5_init_ne (by decide) (by decide)]
  rw [upE_ne (by decide)]
  rw [upE_ne (by decide)]
  rw [E_X2_init_ne (by decide) (by decide)]
  rw [upE_ne (by decide)]
  rw [upE_ne (by decide)]
  rw [upE_ne (by decide)]
  rw [E_X0_init_ne (by decide) (by decide)]
  rw [upE_ne (by decide)]
  rw [upE_ne (by decide)]
  rw [E_X8_init_ne (by decide) (by decide)]
  rw [upE_ne (by decide)]
  unfold E_X10_init
  unfold LyE
  rw [if_pos (by decide)]
  show uE cA bs 32 3 = _
  unfold uE E_X9_init
  rw [upE_ne (by decide)]
  rw [upE_eq (by decide)]
  rfl
theorem eF_86 {cA : Nat → ClassId} {bs : Nat} {sa : Nat → Nat} {E : Nat → va_E} : EF1 cA bs E 36 = ce cA (adF bs sa) I0 L0 (GRf 0) 86 := by
  unfold EF1 E_X11_init
  rw [upE_ne (by decide)]
  rw [E_X5_init_ne (by decide) (by decide)]
  rw [upE_ne (by decide)]
  rw [upE_ne (by decide)]
  rw [E_X2_init_ne (by decide) (by decide)]
  rw [upE_ne (by decide)]
  rw [upE_ne (by decide)]
  rw [upE_ne (by decide)]
  rw [E_X0_init_ne (by decide) (by decide)]
  rw [upE_ne (by decide)]
  rw [upE_ne (by decide)]
  rw [E_X8_init_ne (by decide) (by decide)]
  rw [upE_ne (by decide)]
  unfold E_X10_init
  unfold LyE
  rw [if_pos (by decide)]
  show uE cA bs 36 0 = _
  unfold uE E_X9_init
  rw [upE_eq (by decide)]
  rfl
theorem eF_87 {cA : Nat → ClassId} {bs : Nat} {sa : Nat → Nat} {E : Nat → va_E} : EF1 cA bs E 37 = ce cA (adF bs sa) I0 L0 (GRf 0) 87 := by
  unfold EF1 E_X11_init
  rw [upE_ne (by decide)]
  rw [E_X5_init_ne (by decide) (by decide)]
  rw [upE_ne (by decide)]
  rw [upE_ne (by decide)]
  rw [E_X2_init_ne (by decide) (by decide)]
  rw [upE_ne (by decide)]
  rw [upE_ne (by decide)]
  rw [upE_ne (by decide)]
  rw [E_X0_init_ne (by decide) (by decide)]
  rw [upE_ne (by decide)]
  rw [upE_ne (by decide)]
  rw [E_X8_init_ne (by decide) (by decide)]
  rw [upE_ne (by decide)]
  unfold E_X10_init
  unfold LyE
  rw [if_pos (by decide)]
  show uE cA bs 36 1 = _
  unfold uE E_X9_init
  rw [upE_ne (by decide)]
  rw [upE_ne (by decide)]
  rw [upE_ne (by decide)]
  rw [upE_ne (by decide)]
  rw [upE_ne (by decide)]
  rw [upE_eq (by decide)]
  rfl
theorem eF_88 {cA : Nat → ClassId} {bs : Nat} {sa : Nat → Nat} {E : Nat → va_E} : EF1 cA bs E 38 = ce cA (adF bs sa) I0 L0 (GRf 0) 88 := by
  unfold EF1 E_X11_init
  rw [upE_ne (by decide)]
  rw [E_X5_init_ne (by decide) (by decide)]
  rw [upE_ne (by decide)]
  rw [upE_ne (by decide)]
  rw [E_X2_init_ne (by decide) (by decide)]
  rw [upE_ne (by decide)]
  rw [upE_ne (by decide)]
  rw [upE_ne (by decide)]
  rw [E_X0_init_ne (by decide) (by decide)]
  rw [upE_ne (by decide)]
  rw [upE_ne (by decide)]
  rw [E_X8_init_ne (by decide) (by decide)]
  rw [upE_ne (by decide)]
  unfold E_X10_init
  unfold LyE
  rw [if_pos (by decide)]
  show uE cA bs 36 2 = _
  unfold uE E_X9_init
  rw [upE_ne (by decide)]
  rw [upE_ne (by decide)]
  rw [upE_ne (by decide)]
  rw [upE_eq (by decide)]
  rfl
theorem eF_89 {cA : Nat → ClassId} {bs : Nat} {sa : Nat → Nat} {E : Nat → va_E} : EF1 cA bs E 39 = ce cA (adF bs sa) I0 L0 (GRf 0) 89 := by
  unfold EF1 E_X11_init
  rw [upE_ne (by decide)]
  rw [E_X5_init_ne (by decide) (by decide)]
  rw [upE_ne (by decide)]
  rw [upE_ne (by decide)]
  rw [E_X2_init_ne (by decide) (by decide)]
  rw [upE_ne (by decide)]
  rw [upE_ne (by decide)]
  rw [upE_ne (by decide)]
  rw [E_X0_init_ne (by decide) (by decide)]
  rw [upE_ne (by decide)]
  rw [upE_ne (by decide)]
  rw [E_X8_init_ne (by decide) (by decide)]
  rw [upE_ne (by decide)]
  unfold E_X10_init
  unfold LyE
  rw [if_pos (by decide)]
  show uE cA bs 36 3 = _
  unfold uE E_X9_init
  rw [upE_ne (by decide)]
  rw [upE_eq (by decide)]
  rfl
theorem eF_90 {cA : Nat → ClassId} {bs : Nat} {sa : Nat → Nat} {E : Nat → va_E} : EF1 cA bs E 40 = ce cA (adF bs sa) I0 L0 (GRf 0) 90 := by
  unfold EF1 E_X11_init
  rw [upE_ne (by decide)]
  rw [E_X5_init_ne (by decide) (by decide)]
  rw [upE_ne (by decide)]
  rw [upE_ne (by decide)]
  rw [E_X2_init_ne (by decide) (by decide)]
  rw [upE_ne (by decide)]
  rw [upE_ne (by decide)]
  rw [upE_ne (by decide)]
  rw [E_X0_init_ne (by decide) (by decide)]
  rw [upE_ne (by decide)]
  rw [upE_ne (by decide)]
  rw [E_X8_init_ne (by decide) (by decide)]
  rw [upE_ne (by decide)]
  unfold E_X10_init
  unfold LyE
  rw [if_pos (by decide)]
  show uE cA bs 40 0 = _
  unfold uE E_X9_init
  rw [upE_eq (by decide)]
  rfl
theorem eF_91 {cA : Nat → ClassId} {bs : Nat} {sa : Nat → Nat} {E : Nat → va_E} : EF1 cA bs E 41 = ce cA (adF bs sa) I0 L0 (GRf 0) 91 := by
  unfold EF1 E_X11_init
  rw [upE_ne (by decide)]
  rw [E_X5_init_ne (by decide) (by decide)]
  rw [upE_ne (by decide)]
  rw [upE_ne (by decide)]
  rw [E_X2_init_ne (by decide) (by decide)]
  rw [upE_ne (by decide)]
  rw [upE_ne (by decide)]
  rw [upE_ne (by decide)]
  rw [E_X0_init_ne (by decide) (by decide)]
  rw [upE_ne (by decide)]
  rw [upE_ne (by decide)]
  rw [E_X8_init_ne (by decide) (by decide)]
  rw [upE_ne (by decide)]
  unfold E_X10_init
  unfold LyE
  rw [if_pos (by decide)]
  show uE cA bs 40 1 = _
  unfold uE E_X9_init
  rw [upE_ne (by decide)]
  rw [upE_ne (by decide)]
  rw [upE_ne (by decide)]
  rw [upE_ne (by decide)]
  rw [upE_ne (by decide)]
  rw [upE_eq (by decide)]
  rfl
theorem eF_92 {cA : Nat → ClassId} {bs : Nat} {sa : Nat → Nat} {E : Nat → va_E} : EF1 cA bs E 42 = ce cA (adF bs sa) I0 L0 (GRf 0) 92 := by
  unfold EF1 E_X11_init
  rw [upE_ne (by decide)]
  rw [E_X5_init_ne (by decide) (by decide)]
  rw [upE_ne (by decide)]
  rw [upE_ne (by decide)]
  rw [E_X2_init_ne (by decide) (by decide)]
  rw [upE_ne (by decide)]
  rw [upE_ne (by decide)]
  rw [upE_ne (by decide)]
  rw [E_X0_init_ne (by decide) (by decide)]
  rw [upE_ne (by decide)]
  rw [upE_ne (by decide)]
  rw [E_X8_init_ne (by decide) (by decide)]
  rw [upE_ne (by decide)]
  unfold E_X10_init
  unfold LyE
  rw [if_pos (by decide)]
  show uE cA bs 40 2 = _
  unfold uE E_X9_init
  rw [upE_ne (by decide)]
  rw [upE_ne (by decide)]
  rw [upE_ne (by decide)]
  rw [upE_eq (by decide)]
  rfl
theorem eF_93 {cA : Nat → ClassId} {bs : Nat} {sa : Nat → Nat} {E : Nat → va_E} : EF1 cA bs E 43 = ce cA (adF bs sa) I0 L0 (GRf 0) 93 := by
  unfold EF1 E_X11_init
  rw [upE_ne (by decide)]
  rw [E_X5_init_ne (by decide) (by decide)]
  rw [upE_ne (by decide)]
  rw [upE_ne (by decide)]
  rw [E_X2_init_ne (by decide) (by decide)]
  rw [upE_ne (by decide)]
  rw [upE_ne (by decide)]
  rw [upE_ne (by decide)]
  rw [E_X0_init_ne (by decide) (by decide)]
  rw [upE_ne (by decide)]
  rw [upE_ne (by decide)]
  rw [E_X8_init_ne (by decide) (by decide)]
  rw [upE_ne (by decide)]
  unfold E_X10_init
  unfold LyE
  rw [if_pos (by decide)]
  show uE cA bs 40 3 = _
  unfold uE E_X9_init
  rw [upE_ne (by decide)]
  rw [upE_eq (by decide)]
  rfl
theorem eF_94 {cA : Nat → ClassId} {bs : Nat} {sa : Nat → Nat} {E : Nat → va_E} : EF1 cA bs E 44 = ce cA (adF bs sa) I0 L0 (GRf 0) 94 := by
  unfold EF1 E_X11_init
  rw [upE_ne (by decide)]
  rw [E_X5_init_ne (by decide) (by decide)]
  rw [upE_ne (by decide)]
  rw [upE_ne (by decide)]
  rw [E_X2_init_ne (by decide) (by decide)]
  rw [upE_ne (by decide)]
  rw [upE_ne (by decide)]
  rw [upE_ne (by decide)]
  rw [E_X0_init_ne (by decide) (by decide)]
  rw [upE_ne (by decide)]
  rw [upE_ne (by decide)]
  rw [E_X8_init_ne (by decide) (by decide)]
  rw [upE_ne (by decide)]
  unfold E_X10_init
  unfold LyE
  rw [if_pos (by decide)]
  show uE cA bs 44 0 = _
  unfold uE E_X9_init
  rw [upE_eq (by decide)]
  rfl
theorem eF_95 {cA : Nat → ClassId} {bs : Nat} {sa : Nat → Nat} {E : Nat → va_E} : EF1 cA bs E 45 = ce cA (adF bs sa) I0 L0 (GRf 0) 95 := by
  unfold EF1 E_X11_init
  rw [upE_ne (by decide)]
  rw [E_X5_init_ne (by decide) (by decide)]
  rw [upE_ne (by decide)]
  rw [upE_ne (by decide)]
  rw [E_X2_init_ne (by decide) (by decide)]
  rw [upE_ne (by decide)]
  rw [upE_ne (by decide)]
  rw [upE_ne (by decide)]
  rw [E_X0_init_ne (by decide) (by decide)]
  rw [upE_ne (by decide)]
  rw [upE_ne (by decide)]
  rw [E_X8_init_ne (by decide) (by decide)]
  rw [upE_ne (by decide)]
  unfold E_X10_init
  unfold LyE
  rw [if_pos (by decide)]
  show uE cA bs 44 1 = _
  unfold uE E_X9_init
  rw [upE_ne (by decide)]
  rw [upE_ne (by decide)]
  rw [upE_ne (by decide)]
  rw [upE_ne (by decide)]
  rw [upE_ne (by decide)]
  rw [upE_eq (by decide)]
  rfl
theorem eF_96 {cA : Nat → ClassId} {bs : Nat} {sa : Nat → Nat} {E : Nat → va_E} : EF1 cA bs E 46 = ce cA (adF bs sa) I0 L0 (GRf 0) 96 := by
  unfold EF1 E_X11_init
  rw [upE_ne (by decide)]
  rw [E_X5_init_ne (by decide) (by decide)]
  rw [upE_ne (by decide)]
  rw [upE_ne (by decide)]
  rw [E_X2_init_ne (by decide) (by decide)]
  rw [upE_ne (by decide)]
  rw [upE_ne (by decide)]
  rw [upE_ne (by decide)]
  rw [E_X0_init_ne (by decide) (by decide)]
  rw [upE_ne (by decide)]
  rw [upE_ne (by decide)]
  rw [E_X8_init_ne (by decide) (by decide)]
  rw [upE_ne (by decide)]
  unfold E_X10_init
  unfold LyE
  rw [if_pos (by decide)]
  show uE cA bs 44 2 = _
  unfold uE E_X9_init
  rw [upE_ne (by decide)]
  rw [upE_ne (by decide)]
  rw [upE_ne (by decide)]
  rw [upE_eq (by decide)]
  rfl
theorem eF_97 {cA : Nat → ClassId} {bs : Nat} {sa : Nat → Nat} {E : Nat → va_E} : EF1 cA bs E 47 = ce cA (adF bs sa) I0 L0 (GRf 0) 97 := by
  unfold EF1 E_X11_init
  rw [upE_ne (by decide)]
  rw [E_X5_init_ne (by decide) (by decide)]
  rw [upE_ne (by decide)]
  rw [upE_ne (by decide)]
  rw [E_X2_init_ne (by decide) (by decide)]
  rw [upE_ne (by decide)]
  rw [upE_ne (by decide)]
  rw [upE_ne (by decide)]
  rw [E_X0_init_ne (by decide) (by decide)]
  rw [upE_ne (by decide)]
  rw [upE_ne (by decide)]
  rw [E_X8_init_ne (by decide) (by decide)]
  rw [upE_ne (by decide)]
  unfold E_X10_init
  unfold LyE
  rw [if_pos (by decide)]
  show uE cA bs 44 3 = _
  unfold uE E_X9_init
  rw [upE_ne (by decide)]
  rw [upE_eq (by decide)]
  rfl
theorem eF_98 {cA : Nat → ClassId} {bs : Nat} {sa : Nat → Nat} {E : Nat → va_E} : EF1 cA bs E 48 = ce cA (adF bs sa) I0 L0 (GRf 0) 98 := by
  unfold EF1 E_X11_init
  rw [upE_ne (by decide)]
  rw [E_X5_init_ne (by decide) (by decide)]
  rw [upE_ne (by decide)]
  rw [upE_ne (by decide)]
  rw [E_X2_init_ne (by decide) (by decide)]
  rw [upE_ne (by decide)]
  rw [upE_ne (by decide)]
  rw [upE_ne (by decide)]
  rw [E_X0_init_ne (by decide) (by decide)]
  rw [upE_ne (by decide)]
  rw [upE_ne (by decide)]
  rw [E_X8_init_ne (by decide) (by decide)]
  rw [upE_ne (by decide)]
  unfold E_X10_init
  unfold LyE
  rw [if_pos (by decide)]
  show uE cA bs 48 0 = _
  unfold uE E_X9_init
  rw [upE_eq (by decide)]
  rfl
theorem eF_99 {cA : Nat → ClassId} {bs : Nat} {sa : Nat → Nat} {E : Nat → va_E} : EF1 cA bs E 49 = ce cA (adF bs sa) I0 L0 (GRf 0) 99 := by
  unfold EF1 E_X11_init
  rw [upE_ne (by decide)]
  rw [E_X5_init_ne (by decide) (by decide)]
  rw [upE_ne (by decide)]
  rw [upE_ne (by decide)]
  rw [E_X2_init_ne (by decide) (by decide)]
  rw [upE_ne (by decide)]
  rw [upE_ne (by decide)]
  rw [upE_ne (by decide)]
  rw [E_X0_init_ne (by decide) (by decide)]
  rw [upE_ne (by decide)]
  rw [upE_ne (by decide)]
  rw [E_X8_init_ne (by decide) (by decide)]
  rw [upE_ne (by decide)]
  unfold E_X10_init
  unfold LyE
  rw [if_pos (by decide)]
  show uE cA bs 48 1 = _
  unfold uE E_X9_init
  rw [upE_ne (by decide)]
  rw [upE_ne (by decide)]
  rw [upE_ne (by decide)]
  rw [upE_ne (by decide)]
  rw [upE_ne (by decide)]
  rw [upE_eq (by decide)]
  rfl
theorem eF_100 {cA : Nat → ClassId} {bs : Nat} {sa : Nat → Nat} {E : Nat → va_E} : EF1 cA bs E 50 = ce cA (adF bs sa) I0 L0 (GRf 0) 100 := by
  unfold EF1 E_X11_init
  rw [upE_ne (by decide)]
  rw [E_X5_init_ne (by decide) (by decide)]
  rw [upE_ne (by decide)]
  rw [upE_ne (by decide)]
  rw [E_X2_init_ne (by decide) (by decide)]
  rw [upE_ne (by decide)]
  rw [upE_ne (by decide)]
  rw [upE_ne (by decide)]
  rw [E_X0_init_ne (by decide) (by decide)]
  rw [upE_ne (by decide)]
  rw [upE_ne (by decide)]
  rw [E_X8_init_ne (by decide) (by decide)]
  rw [upE_ne (by decide)]
  unfold E_X10_init
  unfold LyE
  rw [if_pos (by decide)]
  show uE cA bs 48 2 = _
  unfold uE E_X9_init
  rw [upE_ne (by decide)]
  rw [upE_ne (by decide)]
  rw [upE_ne (by decide)]
  rw [upE_eq (by decide)]
  rfl
theorem eF_101 {cA : Nat → ClassId} {bs : Nat} {sa : Nat → Nat} {E : Nat → va_E} : EF1 cA bs E 51 = ce cA (adF bs sa) I0 L0 (GRf 0) 101 := by
  unfold EF1 E_X11_init
  rw [upE_ne (by decide)]
  rw [E_X5_init_ne (by decide) (by decide)]
  rw [upE_ne (by decide)]
  rw [upE_ne (by decide)]
  rw [E_X2_init_ne (by decide) (by decide)]
  rw [upE_ne (by decide)]
  rw [upE_ne (by decide)]
  rw [upE_ne (by decide)]
  rw [E_X0_init_ne (by decide) (by decide)]
  rw [upE_ne (by decide)]
  rw [upE_ne (by decide)]
  rw [E_X8_init_ne (by decide) (by decide)]
  rw [upE_ne (by decide)]
  unfold E_X10_init
  unfold LyE
  rw [if_pos (by decide)]
  show uE cA bs 48 3 = _
  unfold uE E_X9_init
  rw [upE_ne (by decide)]
  rw [upE_eq (by decide)]
  rfl
theorem eF_102 {cA : Nat → ClassId} {bs : Nat} {sa : Nat → Nat} {E : Nat → va_E} : EF1 cA bs E 52 = ce cA (adF bs sa) I0 L0 (GRf 0) 102 := by
  unfold EF1 E_X11_init
  rw [upE_ne (by decide)]
  rw [E_X5_init_ne (by decide) (by decide)]
  rw [upE_ne (by decide)]
  rw [upE_ne (by decide)]
  rw [E_X2_init_ne (by decide) (by decide)]
  rw [upE_ne (by decide)]
  rw [upE_ne (by decide)]
  rw [upE_ne (by decide)]
  rw [E_X0_init_ne (by decide) (by decide)]
  rw [upE_ne (by decide)]
  rw [upE_ne (by decide)]
  rw [E_X8_init_ne (by decide) (by decide)]
  rw [upE_ne (by decide)]
  unfold E_X10_init
  unfold LyE
  rw [if_pos (by decide)]
  show uE cA bs 52 0 = _
  unfold uE E_X9_init
  rw [upE_eq (by decide)]
  rfl
theorem eF_103 {cA : Nat → ClassId} {bs : Nat} {sa : Nat → Nat} {E : Nat → va_E} : EF1 cA bs E 53 = ce cA (adF bs sa) I0 L0 (GRf 0) 103 := by
  unfold EF1 E_X11_init
  rw [upE_ne (by decide)]
  rw [E_X5_init_ne (by decide) (by decide)]
  rw [upE_ne (by decide)]
  rw [upE_ne (by decide)]
  rw [E_X2_init_ne (by decide) (by decide)]
  rw [upE_ne (by decide)]
  rw [upE_ne (by decide)]
  rw [upE_ne (by decide)]
  rw [E_X0_init_ne (by decide) (by decide)]
  rw [upE_ne (by decide)]
  rw [upE_ne (by decide)]
  rw [E_X8_init_ne (by decide) (by decide)]
  rw [upE_ne (by decide)]
  unfold E_X10_init
  unfold LyE
  rw [if_pos (by decide)]
  show uE cA bs 52 1 = _
  unfold uE E_X9_init
  rw [upE_ne (by decide)]
  rw [upE_ne (by decide)]
  rw [upE_ne (by decide)]
  rw [upE_ne (by decide)]
  rw [upE_ne (by decide)]
  rw [upE_eq (by decide)]
  rfl
theorem eF_104 {cA : Nat → ClassId} {bs : Nat} {sa : Nat → Nat} {E : Nat → va_E} : EF1 cA bs E 54 = ce cA (adF bs sa) I0 L0 (GRf 0) 104 := by
  unfold EF1 E_X11_init
  rw [upE_ne (by decide)]
  rw [E_X5_init_ne (by decide) (by decide)]
  rw [upE_ne (by decide)]
  rw [upE_ne (by decide)]
  rw [E_X2_init_ne (by decide) (by decide)]
  rw [upE_ne (by decide)]
  rw [upE_ne (by decide)]
  rw [upE_ne (by decide)]
  rw [E_X0_init_ne (by decide) (by decide)]
  rw [upE_ne (by decide)]
  rw [upE_ne (by decide)]
  rw [E_X8_init_ne (by decide) (by decide)]
  rw [upE_ne (by decide)]
  unfold E_X10_init
  unfold LyE
  rw [if_pos (by decide)]
  show uE cA bs 52 2 = _
  unfold uE E_X9_init
  rw [upE_ne (by decide)]
  rw [upE_ne (by decide)]
  rw [upE_ne (by decide)]
  rw [upE_eq (by decide)]
  rfl
theorem eF_105 {cA : Nat → ClassId} {bs : Nat} {sa : Nat → Nat} {E : Nat → va_E} : EF1 cA bs E 55 = ce cA (adF bs sa) I0 L0 (GRf 0) 105 := by
  unfold EF1 E_X11_init
  rw [upE_ne (by decide)]
  rw [E_X5_init_ne (by decide) (by decide)]
  rw [upE_ne (by decide)]
  rw [upE_ne (by decide)]
  rw [E_X2_init_ne (by decide) (by decide)]
  rw [upE_ne (by decide)]
  rw [upE_ne (by decide)]
  rw [upE_ne (by decide)]
  rw [E_X0_init_ne (by decide) (by decide)]
  rw [upE_ne (by decide)]
  rw [upE_ne (by decide)]
  rw [E_X8_init_ne (by decide) (by decide)]
  rw [upE_ne (by decide)]
  unfold E_X10_init
  unfold LyE
  rw [if_pos (by decide)]
  show uE cA bs 52 3 = _
  unfold uE E_X9_init
  rw [upE_ne (by decide)]
  rw [upE_eq (by decide)]
  rfl
theorem eF_106 {cA : Nat → ClassId} {bs : Nat} {sa : Nat → Nat} {E : Nat → va_E} : EF1 cA bs E 56 = ce cA (adF bs sa) I0 L0 (GRf 0) 106 := by
  unfold EF1 E_X11_init
  rw [upE_ne (by decide)]
  rw [E_X5_init_ne (by decide) (by decide)]
  rw [upE_ne (by decide)]
  rw [upE_ne (by decide)]
  rw [E_X2_init_ne (by decide) (by decide)]
  rw [upE_ne (by decide)]
  rw [upE_ne (by decide)]
  rw [upE_ne (by decide)]
  rw [E_X0_init_ne (by decide) (by decide)]
  rw [upE_ne (by decide)]
  rw [upE_ne (by decide)]
  rw [E_X8_init_ne (by decide) (by decide)]
  rw [upE_ne (by decide)]
  unfold E_X10_init
  unfold LyE
  rw [if_pos (by decide)]
  show uE cA bs 56 0 = _
  unfold uE E_X9_init
  rw [upE_eq (by decide)]
  rfl
theorem eF_107 {cA : Nat → ClassId} {bs : Nat} {sa : Nat → Nat} {E : Nat → va_E} : EF1 cA bs E 57 = ce cA (adF bs sa) I0 L0 (GRf 0) 107 := by
  unfold EF1 E_X11_init
  rw [upE_ne (by decide)]
  rw [E_X5_init_ne (by decide) (by decide)]
  rw [upE_ne (by decide)]
  rw [upE_ne (by decide)]
  rw [E_X2_init_ne (by decide) (by decide)]
  rw [upE_ne (by decide)]
  rw [upE_ne (by decide)]
  rw [upE_ne (by decide)]
  rw [E_X0_init_ne (by decide) (by decide)]
  rw [upE_ne (by decide)]
  rw [upE_ne (by decide)]
  rw [E_X8_init_ne (by decide) (by decide)]
  rw [upE_ne (by decide)]
  unfold E_X10_init
  unfold LyE
  rw [if_pos (by decide)]
  show uE cA bs 56 1 = _
  unfold uE E_X9_init
  rw [upE_ne (by decide)]
  rw [upE_ne (by decide)]
  rw [upE_ne (by decide)]
  rw [upE_ne (by decide)]
  rw [upE_ne (by decide)]
  rw [upE_eq (by decide)]
  rfl
theorem eF_108 {cA : Nat → ClassId} {bs : Nat} {sa : Nat → Nat} {E : Nat → va_E} : EF1 cA bs E 58 = ce cA (adF bs sa) I0 L0 (GRf 0) 108 := by
  unfold EF1 E_X11_init
  rw [upE_ne (by decide)]
  rw [E_X5_init_ne (by decide) (by decide)]
  rw [upE_ne (by decide)]
  rw [upE_ne (by decide)]
  rw [E_X2_init_ne (by decide) (by decide)]
  rw [upE_ne (by decide)]
  rw [upE_ne (by decide)]
  rw [upE_ne (by decide)]
  rw [E_X0_init_ne (by decide) (by decide)]
  rw [upE_ne (by decide)]
  rw [upE_ne (by decide)]
  rw [E_X8_init_ne (by decide) (by decide)]
  rw [upE_ne (by decide)]
  unfold E_X10_init
  unfold LyE
  rw [if_pos (by decide)]
  show uE cA bs 56 2 = _
  unfold uE E_X9_init
  rw [upE_ne (by decide)]
  rw [upE_ne (by decide)]
  rw [upE_ne (by decide)]
  rw [upE_eq (by decide)]
  rfl
theorem eF_109 {cA : Nat → ClassId} {bs : Nat} {sa : Nat → Nat} {E : Nat → va_E} : EF1 cA bs E 59 = ce cA (adF bs sa) I0 L0 (GRf 0) 109 := by
  unfold EF1 E_X11_init
  rw [upE_ne (by decide)]
  rw [E_X5_init_ne (by decide) (by decide)]
  rw [upE_ne (by decide)]
  rw [upE_ne (by decide)]
  rw [E_X2_init_ne (by decide) (by decide)]
  rw [upE_ne (by decide)]
  rw [upE_ne (by decide)]
  rw [upE_ne (by decide)]
  rw [E_X0_init_ne (by decide) (by decide)]
  rw [upE_ne (by decide)]
  rw [upE_ne (by decide)]
  rw [E_X8_init_ne (by decide) (by decide)]
  rw [upE_ne (by decide)]
  unfold E_X10_init
  unfold LyE
  rw [if_pos (by decide)]
  show uE cA bs 56 3 = _
  unfold uE E_X9_init
  rw [upE_ne (by decide)]
  rw [upE_eq (by decide)]
  rfl
theorem eF_110 {cA : Nat → ClassId} {bs : Nat} {sa : Nat → Nat} {E : Nat → va_E} : EF1 cA bs E 60 = ce cA (adF bs sa) I0 L0 (GRf 0) 110 := by
  unfold EF1 E_X11_init
  rw [upE_ne (by decide)]
  rw [E_X5_init_ne (by decide) (by decide)]
  rw [upE_ne (by decide)]
  rw [upE_ne (by decide)]
  rw [E_X2_init_ne (by decide) (by decide)]
  rw [upE_ne (by decide)]
  rw [upE_ne (by decide)]
  rw [upE_ne (by decide)]
  rw [E_X0_init_ne (by decide) (by decide)]
  rw [upE_ne (by decide)]
  rw [upE_ne (by decide)]
  rw [E_X8_init_ne (by decide) (by decide)]
  rw [upE_ne (by decide)]
  unfold E_X10_init
  unfold LyE
  rw [if_pos (by decide)]
  show uE cA bs 60 0 = _
  unfold uE E_X9_init
  rw [upE_eq (by decide)]
  rfl
theorem eF_111 {cA : Nat → ClassId} {bs : Nat} {sa : Nat → Nat} {E : Nat → va_E} : EF1 cA bs E 61 = ce cA (adF bs sa) I0 L0 (GRf 0) 111 := by
  unfold EF1 E_X11_init
  rw [upE_ne (by decide)]
  rw [E_X5_init_ne (by decide) (by decide)]
  rw [upE_ne (by decide)]
  rw [upE_ne (by decide)]
  rw [E_X2_init_ne (by decide) (by decide)]
  rw [upE_ne (by decide)]
  rw [upE_ne (by decide)]
  rw [upE_ne (by decide)]
  rw [E_X0_init_ne (by decide) (by decide)]
  rw [upE_ne (by decide)]
  rw [upE_ne (by decide)]
  rw [E_X8_init_ne (by decide) (by decide)]
  rw [upE_ne (by decide)]
  unfold E_X10_init
  unfold LyE
  rw [if_pos (by decide)]
  show uE cA bs 60 1 = _
  unfold uE E_X9_init
  rw [upE_ne (by decide)]
  rw [upE_ne (by decide)]
  rw [upE_ne (by decide)]
  rw [upE_ne (by decide)]
  rw [upE_ne (by decide)]
  rw [upE_eq (by decide)]
  rfl
theorem eF_112 {cA : Nat → ClassId} {bs : Nat} {sa : Nat → Nat} {E : Nat → va_E} : EF1 cA bs E 62 = ce cA (adF bs sa) I0 L0 (GRf 0) 112 := by
  unfold EF1 E_X11_init
  rw [upE_ne (by decide)]
  rw [E_X5_init_ne (by decide) (by decide)]
  rw [upE_ne (by decide)]
  rw [upE_ne (by decide)]
  rw [E_X2_init_ne (by decide) (by decide)]
  rw [upE_ne (by decide)]
  rw [upE_ne (by decide)]
  rw [upE_ne (by decide)]
  rw [E_X0_init_ne (by decide) (by decide)]
  rw [upE_ne (by decide)]
  rw [upE_ne (by decide)]
  rw [E_X8_init_ne (by decide) (by decide)]
  rw [upE_ne (by decide)]
  unfold E_X10_init
  unfold LyE
  rw [if_pos (by decide)]
  show uE cA bs 60 2 = _
  unfold uE E_X9_init
  rw [upE_ne (by decide)]
  rw [upE_ne (by decide)]
  rw [upE_ne (by decide)]
  rw [upE_eq (by decide)]
  rfl
theorem eF_113 {cA : Nat → ClassId} {bs : Nat} {sa : Nat → Nat} {E : Nat → va_E} : EF1 cA bs E 63 = ce cA (adF bs sa) I0 L0 (GRf 0) 113 := by
  unfold EF1 E_X11_init
  rw [upE_ne (by decide)]
  rw [E_X5_init_ne (by decide) (by decide)]
  rw [upE_ne (by decide)]
  rw [upE_ne (by decide)]
  rw [E_X2_init_ne (by decide) (by decide)]
  rw [upE_ne (by decide)]
  rw [upE_ne (by decide)]
  rw [upE_ne (by decide)]
  rw [E_X0_init_ne (by decide) (by decide)]
  rw [upE_ne (by decide)]
  rw [upE_ne (by decide)]
  rw [E_X8_init_ne (by decide) (by decide)]
  rw [upE_ne (by decide)]
  unfold E_X10_init
  unfold LyE
  rw [if_pos (by decide)]
  show uE cA bs 60 3 = _
  unfold uE E_X9_init
  rw [upE_ne (by decide)]
  rw [upE_eq (by decide)]
  rfl
theorem eF_114 {cA : Nat → ClassId} {bs : Nat} {sa : Nat → Nat} {E : Nat → va_E} : EF1 cA bs E 64 = ce cA (adF bs sa) I0 L0 (GRf 0) 114 := by
  unfold EF1 E_X11_init
  rw [upE_ne (by decide)]
  rw [E_X5_init_ne (by decide) (by decide)]
  rw [upE_ne (by decide)]
  rw [upE_ne (by decide)]
  rw [E_X2_init_ne (by decide) (by decide)]
  rw [upE_ne (by decide)]
  rw [upE_ne (by decide)]
  rw [upE_ne (by decide)]
  rw [E_X0_init_ne (by decide) (by decide)]
  rw [upE_ne (by decide)]
  rw [upE_ne (by decide)]
  rw [E_X8_init_ne (by decide) (by decide)]
  rw [upE_ne (by decide)]
  unfold E_X10_init
  unfold LyE
  rw [if_pos (by decide)]
  show uE cA bs 64 0 = _
  unfold uE E_X9_init
  rw [upE_eq (by decide)]
  rfl
theorem eF_115 {cA : Nat → ClassId} {bs : Nat} {sa : Nat → Nat} {E : Nat → va_E} : EF1 cA bs E 65 = ce cA (adF bs sa) I0 L0 (GRf 0) 115 := by
  unfold EF1 E_X11_init
  rw [upE_ne (by decide)]
  rw [E_X5_init_ne (by decide) (by decide)]
  rw [upE_ne (by decide)]
  rw [upE_ne (by decide)]
  rw [E_X2_init_ne (by decide) (by decide)]
  rw [upE_ne (by decide)]
  rw [upE_ne (by decide)]
  rw [upE_ne (by decide)]
  rw [E_X0_init_ne (by decide) (by decide)]
  rw [upE_ne (by decide)]
  rw [upE_ne (by decide)]
  rw [E_X8_init_ne (by decide) (by decide)]
  rw [upE_ne (by decide)]
  unfold E_X10_init
  unfold LyE
  rw [if_pos (by decide)]
  show uE cA bs 64 1 = _
  unfold uE E_X9_init
  rw [upE_ne (by decide)]
  rw [upE_ne (by decide)]
  rw [upE_ne (by decide)]
  rw [upE_ne (by decide)]
  rw [upE_ne (by decide)]
  rw [upE_eq (by decide)]
  rfl
theorem eF_116 {cA : Nat → ClassId} {bs : Nat} {sa : Nat → Nat} {E : Nat → va_E} : EF1 cA bs E 66 = ce cA (adF bs sa) I0 L0 (GRf 0) 116 := by
  unfold EF1 E_X11_init
  rw [upE_ne (by decide)]
  rw [E_X5_init_ne (by decide) (by decide)]
  rw [upE_ne (by decide)]
  rw [upE_ne (by decide)]
  rw [E_X2_init_ne (by decide) (by decide)]
  rw [upE_ne (by decide)]
  rw [upE_ne (by decide)]
  rw [upE_ne (by decide)]
  rw [E_X0_init_ne (by decide) (by decide)]
  rw [upE_ne (by decide)]
  rw [upE_ne (by decide)]
  rw [E_X8_init_ne (by decide) (by decide)]
  rw [upE_ne (by decide)]
  unfold E_X10_init
  unfold LyE
  rw [if_pos (by decide)]
  show uE cA bs 64 2 = _
  unfold uE E_X9_init
  rw [upE_ne (by decide)]
  rw [upE_ne (by decide)]
  rw [upE_ne (by decide)]
  rw [upE_eq (by decide)]
  rfl
theorem eF_117 {cA : Nat → ClassId} {bs : Nat} {sa : Nat → Nat} {E : Nat → va_E} : EF1 cA bs E 67 = ce cA (adF bs sa) I0 L0 (GRf 0) 117 := by
  unfold EF1 E_X11_init
  rw [upE_ne (by decide)]
  rw [E_X5_init_ne (by decide) (by decide)]
  rw [upE_ne (by decide)]
  rw [upE_ne (by decide)]
  rw [E_X2_init_ne (by decide) (by decide)]
  rw [upE_ne (by decide)]
  rw [upE_ne (by decide)]
  rw [upE_ne (by decide)]
  rw [E_X0_init_ne (by decide) (by decide)]
  rw [upE_ne (by decide)]
  rw [upE_ne (by decide)]
  rw [E_X8_init_ne (by decide) (by decide)]
  rw [upE_ne (by decide)]
  unfold E_X10_init
  unfold LyE
  rw [if_pos (by decide)]
  show uE cA bs 64 3 = _
  unfold uE E_X9_init
  rw [upE_ne (by decide)]
  rw [upE_eq (by decide)]
  rfl
theorem eF_118 {cA : Nat → ClassId} {bs : Nat} {sa : Nat → Nat} {E : Nat → va_E} : EF1 cA bs E 68 = ce cA (adF bs sa) I0 L0 (GRf 0) 118 := by
  unfold EF1 E_X11_init
  rw [upE_ne (by decide)]
  rw [E_X5_init_ne (by decide) (by decide)]
  rw [upE_ne (by decide)]
  rw [upE_ne (by decide)]
  rw [E_X2_init_ne (by decide) (by decide)]
  rw [upE_ne (by decide)]
  rw [upE_ne (by decide)]
  rw [upE_ne (by decide)]
  rw [E_X0_init_ne (by decide) (by decide)]
  rw [upE_ne (by decide)]
  rw [upE_ne (by decide)]
  rw [E_X8_init_ne (by decide) (by decide)]
  rw [upE_ne (by decide)]
  unfold E_X10_init
  unfold LyE
  rw [if_pos (by decide)]
  show uE cA bs 68 0 = _
  unfold uE E_X9_init
  rw [upE_eq (by decide)]
  rfl
theorem eF_119 {cA : Nat → ClassId} {bs : Nat} {sa : Nat → Nat} {E : Nat → va_E} : EF1 cA bs E 69 = ce cA (adF bs sa) I0 L0 (GRf 0) 119 := by
  unfold EF1 E_X11_init
  rw [upE_ne (by decide)]
  rw [E_X5_init_ne (by decide) (by decide)]
  rw [upE_ne (by decide)]
  rw [upE_ne (by decide)]
  rw [E_X2_init_ne (by decide) (by decide)]
  rw [upE_ne (by decide)]
  rw [upE_ne (by decide)]
  rw [upE_ne (by decide)]
  rw [E_X0_init_ne (by decide) (by decide)]
  rw [upE_ne (by decide)]
  rw [upE_ne (by decide)]
  rw [E_X8_init_ne (by decide) (by decide)]
  rw [upE_ne (by decide)]
  unfold E_X10_init
  unfold LyE
  rw [if_pos (by decide)]
  show uE cA bs 68 1 = _
  unfold uE E_X9_init
  rw [upE_ne (by decide)]
  rw [upE_ne (by decide)]
  rw [upE_ne (by decide)]
  rw [upE_ne (by decide)]
  rw [upE_ne (by decide)]
  rw [upE_eq (by decide)]
  rfl
theorem eF_120 {cA : Nat → ClassId} {bs : Nat} {sa : Nat → Nat} {E : Nat → va_E} : EF1 cA bs E 70 = ce cA (adF bs sa) I0 L0 (GRf 0) 120 := by
  unfold EF1 E_X11_init
  rw [upE_ne (by decide)]
  rw [E_X5_init_ne (by decide) (by decide)]
  rw [upE_ne (by decide)]
  rw [upE_ne (by decide)]
  rw [E_X2_init_ne (by decide) (by decide)]
  rw [upE_ne (by decide)]
  rw [upE_ne (by decide)]
  rw [upE_ne (by decide)]
  rw [E_X0_init_ne (by decide) (by decide)]
  rw [upE_ne (by decide)]
  rw [upE_ne (by decide)]
  rw [E_X8_init_ne (by decide) (by decide)]
  rw [upE_ne (by decide)]
  unfold E_X10_init
  unfold LyE
  rw [if_pos (by decide)]
  show uE cA bs 68 2 = _
  unfold uE E_X9_init
  rw [upE_ne (by decide)]
  rw [upE_ne (by decide)]
  rw [upE_ne (by decide)]
  rw [upE_eq (by decide)]
  rfl
theorem eF_121 {cA : Nat → ClassId} {bs : Nat} {sa : Nat → Nat} {E : Nat → va_E} : EF1 cA bs E 71 = ce cA (adF bs sa) I0 L0 (GRf 0) 121 := by
  unfold EF1 E_X11_init
  rw [upE_ne (by decide)]
  rw [E_X5_init_ne (by decide) (by decide)]
  rw [upE_ne (by decide)]
  rw [upE_ne (by decide)]
  rw [E_X2_init_ne (by decide) (by decide)]
  rw [upE_ne (by decide)]
  rw [upE_ne (by decide)]
  rw [upE_ne (by decide)]
  rw [E_X0_init_ne (by decide) (by decide)]
  rw [upE_ne (by decide)]
  rw [upE_ne (by decide)]
  rw [E_X8_init_ne (by decide) (by decide)]
  rw [upE_ne (by decide)]
  unfold E_X10_init
  unfold LyE
  rw [if_pos (by decide)]
  show uE cA bs 68 3 = _
  unfold uE E_X9_init
  rw [upE_ne (by decide)]
  rw [upE_eq (by decide)]
  rfl
theorem eF_122 {cA : Nat → ClassId} {bs : Nat} {sa : Nat → Nat} {E : Nat → va_E} : EF1 cA bs E 72 = ce cA (adF bs sa) I0 L0 (GRf 0) 122 := by
  unfold EF1 E_X11_init
  rw [upE_ne (by decide)]
  rw [E_X5_init_ne (by decide) (by decide)]
  rw [upE_ne (by decide)]
  rw [upE_ne (by decide)]
  rw [E_X2_init_ne (by decide) (by decide)]
  rw [upE_ne (by decide)]
  rw [upE_ne (by decide)]
  rw [upE_ne (by decide)]
  rw [E_X0_init_ne (by decide) (by decide)]
  rw [upE_ne (by decide)]
  rw [upE_ne (by decide)]
  rw [E_X8_init_ne (by decide) (by decide)]
  rw [upE_ne (by decide)]
  unfold E_X10_init
  unfold LyE
  rw [if_pos (by decide)]
  show uE cA bs 72 0 = _
  unfold uE E_X9_init
  rw [upE_eq (by decide)]
  rfl
theorem eF_123 {cA : Nat → ClassId} {bs : Nat} {sa : Nat → Nat} {E : Nat → va_E} : EF1 cA bs E 73 = ce cA (adF bs sa) I0 L0 (GRf 0) 123 := by
  unfold EF1 E_X11_init
  rw [upE_ne (by decide)]
  rw [E_X5_init_ne (by decide) (by decide)]
  rw [upE_ne (by decide)]
  rw [upE_ne (by decide)]
  rw [E_X2_init_ne (by decide) (by decide)]
  rw [upE_ne (by decide)]
  rw [upE_ne (by decide)]
  rw [upE_ne (by decide)]
  rw [E_X0_init_ne (by decide) (by decide)]
  rw [upE_ne (by decide)]
  rw [upE_ne (by decide)]
  rw [E_X8_init_ne (by decide) (by decide)]
  rw [upE_ne (by decide)]
  unfold E_X10_init
  unfold LyE
  rw [if_pos (by decide)]
  show uE cA bs 72 1 = _
  unfold uE E_X9_init
  rw [upE_ne (by decide)]
  rw [upE_ne (by decide)]
  rw [upE_ne (by decide)]
  rw [upE_ne (by decide)]
  rw [upE_ne (by decide)]
  rw [upE_eq (by decide)]
  rfl
theorem eF_124 {cA : Nat → ClassId} {bs : Nat} {sa : Nat → Nat} {E : Nat → va_E} : EF1 cA bs E 74 = ce cA (adF bs sa) I0 L0 (GRf 0) 124 := by
  unfold EF1 E_X11_init
  rw [upE_ne (by decide)]
  rw [E_X5_init_ne (by decide) (by decide)]
  rw [upE_ne (by decide)]
  rw [upE_ne (by decide)]
  rw [E_X2_init_ne (by decide) (by decide)]
  rw [upE_ne (by decide)]
  rw [upE_ne (by decide)]
  rw [upE_ne (by decide)]
  rw [E_X0_init_ne (by decide) (by decide)]
  rw [upE_ne (by decide)]
  rw [upE_ne (by decide)]
  rw [E_X8_init_ne (by decide) (by decide)]
  rw [upE_ne (by decide)]
  unfold E_X10_init
  unfold LyE
  rw [if_pos (by decide)]
  show uE cA bs 72 2 = _
  unfold uE E_X9_init
  rw [upE_ne (by decide)]
  rw [upE_ne (by decide)]
  rw [upE_ne (by decide)]
  rw [upE_eq (by decide)]
  rfl
theorem eF_125 {cA : Nat → ClassId} {bs : Nat} {sa : Nat → Nat} {E : Nat → va_E} : EF1 cA bs E 75 = ce cA (adF bs sa) I0 L0 (GRf 0) 125 := by
  unfold EF1 E_X11_init
  rw [upE_ne (by decide)]
  rw [E_X5_init_ne (by decide) (by decide)]
  rw [upE_ne (by decide)]
  rw [upE_ne (by decide)]
  rw [E_X2_init_ne (by decide) (by decide)]
  rw [upE_ne (by decide)]
  rw [upE_ne (by decide)]
  rw [upE_ne (by decide)]
  rw [E_X0_init_ne (by decide) (by decide)]
  rw [upE_ne (by decide)]
  rw [upE_ne (by decide)]
  rw [E_X8_init_ne (by decide) (by decide)]
  rw [upE_ne (by decide)]
  unfold E_X10_init
  unfold LyE
  rw [if_pos (by decide)]
  show uE cA bs 72 3 = _
  unfold uE E_X9_init
  rw [upE_ne (by decide)]
  rw [upE_eq (by decide)]
  rfl
theorem eF_126 {cA : Nat → ClassId} {bs : Nat} {sa : Nat → Nat} {E : Nat → va_E} : EF1 cA bs E 76 = ce cA (adF bs sa) I0 L0 (GRf 0) 126 := by
  unfold EF1 E_X11_init
  rw [upE_ne (by decide)]
  rw [E_X5_init_ne (by decide) (by decide)]
  rw [upE_ne (by decide)]
  rw [upE_ne (by decide)]
  rw [E_X2_init_ne (by decide) (by decide)]
  rw [upE_ne (by decide)]
  rw [upE_ne (by decide)]
  rw [upE_ne (by decide)]
  rw [E_X0_init_ne (by decide) (by decide)]
  rw [upE_ne (by decide)]
  rw [upE_ne (by decide)]
  rw [E_X8_init_ne (by decide) (by decide)]
  rw [upE_ne (by decide)]
  unfold E_X10_init
  unfold LyE
  rw [if_pos (by decide)]
  show uE cA bs 76 0 = _
  unfold uE E_X9_init
  rw [upE_eq (by decide)]
  rfl
theorem eF_127 {cA : Nat → ClassId} {bs : Nat} {sa : Nat → Nat} {E : Nat → va_E} : EF1 cA bs E 77 = ce cA (adF bs sa) I0 L0 (GRf 0) 127 := by
  unfold EF1 E_X11_init
  rw [upE_ne (by decide)]
  rw [E_X5_init_ne (by decide) (by decide)]
  rw [upE_ne (by decide)]
  rw [upE_ne (by decide)]
  rw [E_X2_init_ne (by decide) (by decide)]
  rw [upE_ne (by decide)]
  rw [upE_ne (by decide)]
  rw [upE_ne (by decide)]
  rw [E_X0_init_ne (by decide) (by decide)]
  rw [upE_ne (by decide)]
  rw [upE_ne (by decide)]
  rw [E_X8_init_ne (by decide) (by decide)]
  rw [upE_ne (by decide)]
  unfold E_X10_init
  unfold LyE
  rw [if_pos (by decide)]
  show uE cA bs 76 1 = _
  unfold uE E_X9_init
  rw [upE_ne (by decide)]
  rw [upE_ne (by decide)]
  rw [upE_ne (by decide)]
  rw [upE_ne (by decide)]
  rw [upE_ne (by decide)]
  rw [upE_eq (by decide)]
  rfl
theorem eF_128 {cA : Nat → ClassId} {bs : Nat} {sa : Nat → Nat} {E : Nat → va_E} : EF1 cA bs E 78 = ce cA (adF bs sa) I0 L0 (GRf 0) 128 := by
  unfold EF1 E_X11_init
  rw [upE_ne (by decide)]
  rw [E_X5_init_ne (by decide) (by decide)]
  rw [upE_ne (by decide)]
  rw [upE_ne (by decide)]
  rw [E_X2_init_ne (by decide) (by decide)]
  rw [upE_ne (by decide)]
  rw [upE_ne (by decide)]
  rw [upE_ne (by decide)]
  rw [E_X0_init_ne (by decide) (by decide)]
  rw [upE_ne (by decide)]
  rw [upE_ne (by decide)]
  rw [E_X8_init_ne (by decide) (by decide)]
  rw [upE_ne (by decide)]
  unfold E_X10_init
  unfold LyE
  rw [if_pos (by decide)]
  show uE cA bs 76 2 = _
  unfold uE E_X9_init
  rw [upE_ne (by decide)]
  rw [upE_ne (by decide)]
  rw [upE_ne (by decide)]
  rw [upE_eq (by decide)]
  rfl
theorem eF_129 {cA : Nat → ClassId} {bs : Nat} {sa : Nat → Nat} {E : Nat → va_E} : EF1 cA bs E 79 = ce cA (adF bs sa) I0 L0 (GRf 0) 129 := by
  unfold EF1 E_X11_init
  rw [upE_ne (by decide)]
  rw [E_X5_init_ne (by decide) (by decide)]
  rw [upE_ne (by decide)]
  rw [upE_ne (by decide)]
  rw [E_X2_init_ne (by decide) (by decide)]
  rw [upE_ne (by decide)]
  rw [upE_ne (by decide)]
  rw [upE_ne (by decide)]
  rw [E_X0_init_ne (by decide) (by decide)]
  rw [upE_ne (by decide)]
  rw [upE_ne (by decide)]
  rw [E_X8_init_ne (by decide) (by decide)]
  rw [upE_ne (by decide)]
  unfold E_X10_init
  unfold LyE
  rw [if_pos (by decide)]
  show uE cA bs 76 3 = _
  unfold uE E_X9_init
  rw [upE_ne (by decide)]
  rw [upE_eq (by decide)]
  rfl
theorem eF_130 {cA : Nat → ClassId} {bs : Nat} {sa : Nat → Nat} {E : Nat → va_E} : EF1 cA bs E 80 = ce cA (adF bs sa) I0 L0 (GRf 0) 130 := by
  unfold EF1 E_X11_init
  rw [upE_ne (by decide)]
  rw [E_X5_init_ne (by decide) (by decide)]
  rw [upE_ne (by decide)]
  rw [upE_ne (by decide)]
  rw [E_X2_init_ne (by decide) (by decide)]
  rw [upE_ne (by decide)]
  rw [upE_ne (by decide)]
  rw [upE_ne (by decide)]
  rw [E_X0_init_ne (by decide) (by decide)]
  rw [upE_ne (by decide)]
  rw [upE_ne (by decide)]
  rw [E_X8_init_ne (by decide) (by decide)]
  rw [upE_ne (by decide)]
  unfold E_X10_init
  unfold LyE
  rw [if_pos (by decide)]
  show uE cA bs 80 0 = _
  unfold uE E_X9_init
  rw [upE_eq (by decide)]
  rfl
theorem eF_131 {cA : Nat → ClassId} {bs : Nat} {sa : Nat → Nat} {E : Nat → va_E} : EF1 cA bs E 81 = ce cA (adF bs sa) I0 L0 (GRf 0) 131 := by
  unfold EF1 E_X11_init
  rw [upE_ne (by decide)]
  rw [E_X5_init_ne (by decide) (by decide)]
  rw [upE_ne (by decide)]
  rw [upE_ne (by decide)]
  rw [E_X2_init_ne (by decide) (by decide)]
  rw [upE_ne (by decide)]
  rw [upE_ne (by decide)]
  rw [upE_ne (by decide)]
  rw [E_X0_init_ne (by decide) (by decide)]
  rw [upE_ne (by decide)]
  rw [upE_ne (by decide)]
  rw [E_X8_init_ne (by decide) (by decide)]
  rw [upE_ne (by decide)]
  unfold E_X10_init
  unfold LyE
  rw [if_pos (by decide)]
  show uE cA bs 80 1 = _
  unfold uE E_X9_init
  rw [upE_ne (by decide)]
  rw [upE_ne (by decide)]
  rw [upE_ne (by decide)]
  rw [upE_ne (by decide)]
  rw [upE_ne (by decide)]
  rw [upE_eq (by decide)]
  rfl
theorem eF_132 {cA : Nat → ClassId} {bs : Nat} {sa : Nat → Nat} {E : Nat → va_E} : EF1 cA bs E 82 = ce cA (adF bs sa) I0 L0 (GRf 0) 132 := by
  unfold EF1 E_X11_init
  rw [upE_ne (by decide)]
  rw [E_X5_init_ne (by decide) (by decide)]
  rw [upE_ne (by decide)]
  rw [upE_ne (by decide)]
  rw [E_X2_init_ne (by decide) (by decide)]
  rw [upE_ne (by decide)]
  rw [upE_ne (by decide)]
  rw [upE_ne (by decide)]
  rw [E_X0_init_ne (by decide) (by decide)]
  rw [upE_ne (by decide)]
  rw [upE_ne (by decide)]
  rw [E_X8_init_ne (by decide) (by decide)]
  rw [upE_ne (by decide)]
  unfold E_X10_init
  unfold LyE
  rw [if_pos (by decide)]
  show uE cA bs 80 2 = _
  unfold uE E_X9_init
  rw [upE_ne (by decide)]
  rw [upE_ne (by decide)]
  rw [upE_ne (by decide)]
  rw [upE_eq (by decide)]
  rfl
theorem eF_133 {cA : Nat → ClassId} {bs : Nat} {sa : Nat → Nat} {E : Nat → va_E} : EF1 cA bs E 83 = ce cA (adF bs sa) I0 L0 (GRf 0) 133 := by
  unfold EF1 E_X11_init
  rw [upE_ne (by decide)]
  rw [E_X5_init_ne (by decide) (by decide)]
  rw [upE_ne (by decide)]
  rw [upE_ne (by decide)]
  rw [E_X2_init_ne (by decide) (by decide)]
  rw [upE_ne (by decide)]
  rw [upE_ne (by decide)]
  rw [upE_ne (by decide)]
  rw [E_X0_init_ne (by decide) (by decide)]
  rw [upE_ne (by decide)]
  rw [upE_ne (by decide)]
  rw [E_X8_init_ne (by decide) (by decide)]
  rw [upE_ne (by decide)]
  unfold E_X10_init
  unfold LyE
  rw [if_pos (by decide)]
  show uE cA bs 80 3 = _
  unfold uE E_X9_init
  rw [upE_ne (by decide)]
  rw [upE_eq (by decide)]
  rfl
theorem eF_134 {cA : Nat → ClassId} {bs : Nat} {sa : Nat → Nat} {E : Nat → va_E} : EF1 cA bs E 84 = ce cA (adF bs sa) I0 L0 (GRf 0) 134 := by
  unfold EF1 E_X11_init
  rw [upE_ne (by decide)]
  rw [E_X5_init_ne (by decide) (by decide)]
  rw [upE_ne (by decide)]
  rw [upE_ne (by decide)]
  rw [E_X2_init_ne (by decide) (by decide)]
  rw [upE_ne (by decide)]
  rw [upE_ne (by decide)]
  rw [upE_ne (by decide)]
  rw [E_X0_init_ne (by decide) (by decide)]
  rw [upE_ne (by decide)]
  rw [upE_ne (by decide)]
  rw [E_X8_init_ne (by decide) (by decide)]
  rw [upE_ne (by decide)]
  unfold E_X10_init
  unfold LyE
  rw [if_pos (by decide)]
  show uE cA bs 84 0 = _
  unfold uE E_X9_init
  rw [upE_eq (by decide)]
  rfl
theorem eF_135 {cA : Nat → ClassId} {bs : Nat} {sa : Nat → Nat} {E : Nat → va_E} : EF1 cA bs E 85 = ce cA (adF bs sa) I0 L0 (GRf 0) 135 := by
  unfold EF1 E_X11_init
  rw [upE_ne (by decide)]
  rw [E_X5_init_ne (by decide) (by decide)]
  rw [upE_ne (by decide)]
  rw [upE_ne (by decide)]
  rw [E_X2_init_ne (by decide) (by decide)]
  rw [upE_ne (by decide)]
  rw [upE_ne (by decide)]
  rw [upE_ne (by decide)]
  rw [E_X0_init_ne (by decide) (by decide)]
  rw [upE_ne (by decide)]
  rw [upE_ne (by decide)]
  rw [E_X8_init_ne (by decide) (by decide)]
  rw [upE_ne (by decide)]
  unfold E_X10_init
  unfold LyE
  rw [if_pos (by decide)]
  show uE cA bs 84 1 = _
  unfold uE E_X9_init
  rw [upE_ne (by decide)]
  rw [upE_ne (by decide)]
  rw [upE_ne (by decide)]
  rw [upE_ne (by decide)]
  rw [upE_ne (by decide)]
  rw [upE_eq (by decide)]
  rfl
theorem eF_136 {cA : Nat → ClassId} {bs : Nat} {sa : Nat → Nat} {E : Nat → va_E} : EF1 cA bs E 86 = ce cA (adF bs sa) I0 L0 (GRf 0) 136 := by
  unfold EF1 E_X11_init
  rw [upE_ne (by decide)]
  rw [E_X5_init_ne (by decide) (by decide)]
  rw [upE_ne (by decide)]
  rw [upE_ne (by decide)]
  rw [E_X2_init_ne (by decide) (by decide)]
  rw [upE_ne (by decide)]
  rw [upE_ne (by decide)]
  rw [upE_ne (by decide)]
  rw [E_X0_init_ne (by decide) (by decide)]
  rw [upE_ne (by decide)]
  rw [upE_ne (by decide)]
  rw [E_X8_init_ne (by decide) (by decide)]
  rw [upE_ne (by decide)]
  unfold E_X10_init
  unfold LyE
  rw [if_pos (by decide)]
  show uE cA bs 84 2 = _
  unfold uE E_X9_init
  rw [upE_ne (by decide)]
  rw [upE_ne (by decide)]
  rw [upE_ne (by decide)]
  rw [upE_eq (by decide)]
  rfl
theorem eF_137 {cA : Nat → ClassId} {bs : Nat} {sa : Nat → Nat} {E : Nat → va_E} : EF1 cA bs E 87 = ce cA (adF bs sa) I0 L0 (GRf 0) 137 := by
  unfold EF1 E_X11_init
  rw [upE_ne (by decide)]
  rw [E_X5_init_ne (by decide) (by decide)]
  rw [upE_ne (by decide)]
  rw [upE_ne (by decide)]
  rw [E_X2_init_ne (by decide) (by decide)]
  rw [upE_ne (by decide)]
  rw [upE_ne (by decide)]
  rw [upE_ne (by decide)]
  rw [E_X0_init_ne (by decide) (by decide)]
  rw [upE_ne (by decide)]
  rw [upE_ne (by decide)]
  rw [E_X8_init_ne (by decide) (by decide)]
  rw [upE_ne (by decide)]
  unfold E_X10_init
  unfold LyE
  rw [if_pos (by decide)]
  show uE cA bs 84 3 = _
  unfold uE E_X9_init
  rw [upE_ne (by decide)]
  rw [upE_eq (by decide)]
  rfl
set_option maxRecDepth 100000 in
theorem eF_138 {cA : Nat → ClassId} {bs : Nat} {sa : Nat → Nat} {E : Nat → va_E} : EF1 cA bs E 3 = ce cA (adF bs sa) I0 L0 (GRf 0) 138 := by
  unfold EF1 E_X11_init
  rw [upE_ne (by decide)]
  rw [E_X5_init_ne (by decide) (by decide)]
  rw [upE_ne (by decide)]
  rw [upE_ne (by decide)]
  rw [E_X2_init_ne (by decide) (by decide)]
  rw [upE_ne (by decide)]
  rw [upE_ne (by decide)]
  rw [upE_ne (by decide)]
  rw [E_X0_init_ne (by decide) (by decide)]
  rw [upE_ne (by decide)]
  rw [upE_ne (by decide)]
  rw [E_X8_init_ne (by decide) (by decide)]
  rw [upE_ne (by decide)]
  unfold E_X10_init
  rw [LyE_ne (by decide) (by decide)]
  unfold E0_X10_init
  rw [upE_ne (by decide)]
  rw [upE_ne (by decide)]
  rw [upE_ne (by decide)]
  unfold E_X9_init
  rw [upE_eq (by decide)]
  rfl
theorem eF_139 {cA : Nat → ClassId} {bs : Nat} {sa : Nat → Nat} {E : Nat → va_E} : EF1 cA bs E 4 = ce cA (adF bs sa) I0 L0 (GRf 0) 139 := by
  unfold EF1 E_X11_init
  rw [upE_ne (by decide)]
  rw [E_X5_init_ne (by decide) (by decide)]
  rw [upE_ne (by decide)]
  rw [upE_ne (by decide)]
  rw [E_X2_init_ne (by decide) (by decide)]
  rw [upE_ne (by decide)]
  rw [upE_ne (by decide)]
  rw [upE_ne (by decide)]
  rw [E_X0_init_ne (by decide) (by decide)]
  rw [upE_ne (by decide)]
  rw [upE_ne (by decide)]
  rw [E_X8_init_ne (by decide) (by decide)]
  rw [upE_ne (by decide)]
  unfold E_X10_init
  rw [LyE_ne (by decide) (by decide)]
  unfold E0_X10_init
  rw [upE_ne (by decide)]
  rw [upE_ne (by decide)]
  rw [upE_ne (by decide)]
  unfold E_X9_init
  rw [upE_ne (by decide)]
  rw [upE_ne (by decide)]
  rw [upE_ne (by decide)]
  rw [upE_ne (by decide)]
  rw [upE_ne (by decide)]
  rw [upE_eq (by decide)]
  rfl
theorem eF_140 {cA : Nat → ClassId} {bs : Nat} {sa : Nat → Nat} {E : Nat → va_E} : EF1 cA bs E 5 = ce cA (adF bs sa) I0 L0 (GRf 0) 140 := by
  unfold EF1 E_X11_init
  rw [upE_ne (by decide)]
  rw [E_X5_init_ne (by decide) (by decide)]
  rw [upE_ne (by decide)]
  rw [upE_ne (by decide)]
  rw [E_X2_init_ne (by decide) (by decide)]
  rw [upE_ne (by decide)]
  rw [upE_ne (by decide)]
  rw [upE_ne (by decide)]
  rw [E_X0_init_ne (by decide) (by decide)]
  rw [upE_ne (by decide)]
  rw [upE_ne (by decide)]
  rw [E_X8_init_ne (by decide) (by decide)]
  rw [upE_ne (by decide)]
  unfold E_X10_init
  rw [LyE_ne (by decide) (by decide)]
  unfold E0_X10_init
  rw [upE_ne (by decide)]
  rw [upE_ne (by decide)]
  rw [upE_ne (by decide)]
  unfold E_X9_init
  rw [upE_ne (by decide)]
  rw [upE_ne (by decide)]
  rw [upE_ne (by decide)]
  rw [upE_eq (by decide)]
  rfl
theorem eF_141 {cA : Nat → ClassId} {bs : Nat} {sa : Nat → Nat} {E : Nat → va_E} : EF1 cA bs E 6 = ce cA (adF bs sa) I0 L0 (GRf 0) 141 := by
  unfold EF1 E_X11_init
  rw [upE_ne (by decide)]
  rw [E_X5_init_ne (by decide) (by decide)]
  rw [upE_ne (by decide)]
  rw [upE_ne (by decide)]
  rw [E_X2_init_ne (by decide) (by decide)]
  rw [upE_ne (by decide)]
  rw [upE_ne (by decide)]
  rw [upE_ne (by decide)]
  rw [E_X0_init_ne (by decide) (by decide)]
  rw [upE_ne (by decide)]
  rw [upE_ne (by decide)]
  rw [E_X8_init_ne (by decide) (by decide)]
  rw [upE_ne (by decide)]
  unfold E_X10_init
  rw [LyE_ne (by decide) (by decide)]
  unfold E0_X10_init
  rw [upE_ne (by decide)]
  rw [upE_ne (by decide)]
  rw [upE_ne (by decide)]
  unfold E_X9_init
  rw [upE_ne (by decide)]
  rw [upE_eq (by decide)]
  rfl
theorem eF_142 {cA : Nat → ClassId} {bs : Nat} {sa : Nat → Nat} {E : Nat → va_E} : EF1 cA bs E 107 = ce cA (adF bs sa) I0 L0 (GRf 0) 142 := by
  unfold EF1 E_X11_init
  rw [upE_ne (by decide)]
  rw [E_X5_init_ne (by decide) (by decide)]
  rw [upE_ne (by decide)]
  rw [upE_ne (by decide)]
  unfold E_X2_init
  rw [upE_ne (by decide)]
  unfold E_X5_init
  unfold LpE
  rw [if_pos (by decide)]
  rfl
theorem eF_143 {cA : Nat → ClassId} {bs : Nat} {sa : Nat → Nat} {E : Nat → va_E} : EF1 cA bs E 108 = ce cA (adF bs sa) I0 L0 (GRf 0) 143 := by
  unfold EF1 E_X11_init
  rw [upE_ne (by decide)]
  rw [E_X5_init_ne (by decide) (by decide)]
  rw [upE_ne (by decide)]
  rw [upE_ne (by decide)]
  unfold E_X2_init
  rw [upE_ne (by decide)]
  unfold E_X5_init
  unfold LpE
  rw [if_pos (by decide)]
  rfl
theorem eF_144 {cA : Nat → ClassId} {bs : Nat} {sa : Nat → Nat} {E : Nat → va_E} : EF1 cA bs E 109 = ce cA (adF bs sa) I0 L0 (GRf 0) 144 := by
  unfold EF1 E_X11_init
  rw [upE_ne (by decide)]
  rw [E_X5_init_ne (by decide) (by decide)]
  rw [upE_ne (by decide)]
  rw [upE_ne (by decide)]
  unfold E_X2_init
  rw [upE_ne (by decide)]
  unfold E_X5_init
  unfold LpE
  rw [if_pos (by decide)]
  rfl
theorem eF_145 {cA : Nat → ClassId} {bs : Nat} {sa : Nat → Nat} {E : Nat → va_E} : EF1 cA bs E 110 = ce cA (adF bs sa) I0 L0 (GRf 0) 145 := by
  unfold EF1 E_X11_init
  rw [upE_ne (by decide)]
  rw [E_X5_init_ne (by decide) (by decide)]
  rw [upE_ne (by decide)]
  rw [upE_ne (by decide)]
  unfold E_X2_init
  rw [upE_ne (by decide)]
  unfold E_X5_init
  unfold LpE
  rw [if_pos (by decide)]
  rfl
theorem eF_146 {cA : Nat → ClassId} {bs : Nat} {sa : Nat → Nat} {E : Nat → va_E} : EF1 cA bs E 111 = ce cA (adF bs sa) I0 L0 (GRf 0) 146 := by
  unfold EF1 E_X11_init
  rw [upE_ne (by decide)]
  rw [E_X5_init_ne (by decide) (by decide)]
  rw [upE_ne (by decide)]
  rw [upE_ne (by decide)]
  unfold E_X2_init
  rw [upE_ne (by decide)]
  unfold E_X5_init
  unfold LpE
  rw [if_pos (by decide)]
  rfl
theorem eF_147 {cA : Nat → ClassId} {bs : Nat} {sa : Nat → Nat} {E : Nat → va_E} : EF1 cA bs E 112 = ce cA (adF bs sa) I0 L0 (GRf 0) 147 := by
  unfold EF1 E_X11_init
  rw [upE_ne (by decide)]
  rw [E_X5_init_ne (by decide) (by decide)]
  rw [upE_ne (by decide)]
  rw [upE_ne (by decide)]
  unfold E_X2_init
  rw [upE_ne (by decide)]
  unfold E_X5_init
  unfold LpE
  rw [if_pos (by decide)]
  rfl
theorem eF_148 {cA : Nat → ClassId} {bs : Nat} {sa : Nat → Nat} {E : Nat → va_E} : EF1 cA bs E 113 = ce cA (adF bs sa) I0 L0 (GRf 0) 148 := by
  unfold EF1 E_X11_init
  rw [upE_ne (by decide)]
  rw [E_X5_init_ne (by decide) (by decide)]
  rw [upE_ne (by decide)]
  rw [upE_ne (by decide)]
  unfold E_X2_init
  rw [upE_ne (by decide)]
  unfold E_X5_init
  unfold LpE
  rw [if_pos (by decide)]
  rfl
theorem eF_149 {cA : Nat → ClassId} {bs : Nat} {sa : Nat → Nat} {E : Nat → va_E} : EF1 cA bs E 114 = ce cA (adF bs sa) I0 L0 (GRf 0) 149 := by
  unfold EF1 E_X11_init
  rw [upE_ne (by decide)]
  rw [E_X5_init_ne (by decide) (by decide)]
  rw [upE_ne (by decide)]
  rw [upE_ne (by decide)]
  unfold E_X2_init
  rw [upE_ne (by decide)]
  unfold E_X5_init
  unfold LpE
  rw [if_pos (by decide)]
  rfl
theorem eF_150 {cA : Nat → ClassId} {bs : Nat} {sa : Nat → Nat} {E : Nat → va_E} : EF1 cA bs E 115 = ce cA (adF bs sa) I0 L0 (GRf 0) 150 := by
  unfold EF1 E_X11_init
  rw [upE_ne (by decide)]
  rw [E_X5_init_ne (by decide) (by decide)]
  rw [upE_ne (by decide)]
  rw [upE_ne (by decide)]
  unfold E_X2_init
  rw [upE_ne (by decide)]
  unfold E_X5_init
  unfold LpE
  rw [if_pos (by decide)]
  rfl
theorem eF_151 {cA : Nat → ClassId} {bs : Nat} {sa : Nat → Nat} {E : Nat → va_E} : EF1 cA bs E 116 = ce cA (adF bs sa) I0 L0 (GRf 0) 151 := by
  unfold EF1 E_X11_init
  rw [upE_ne (by decide)]
  rw [E_X5_init_ne (by decide) (by decide)]
  rw [upE_ne (by decide)]
  rw [upE_ne (by decide)]
  unfold E_X2_init
  rw [upE_ne (by decide)]
  unfold E_X5_init
  unfold LpE
  rw [if_pos (by decide)]
  rfl
theorem eF_152 {cA : Nat → ClassId} {bs : Nat} {sa : Nat → Nat} {E : Nat → va_E} : EF1 cA bs E 117 = ce cA (adF bs sa) I0 L0 (GRf 0) 152 := by
  unfold EF1 E_X11_init
  rw [upE_ne (by decide)]
  rw [E_X5_init_ne (by decide) (by decide)]
  rw [upE_ne (by decide)]
  rw [upE_ne (by decide)]
  unfold E_X2_init
  rw [upE_ne (by decide)]
  unfold E_X5_init
  unfold LpE
  rw [if_pos (by decide)]
  rfl
theorem eF_153 {cA : Nat → ClassId} {bs : Nat} {sa : Nat → Nat} {E : Nat → va_E} : EF1 cA bs E 118 = ce cA (adF bs sa) I0 L0 (GRf 0) 153 := by
  unfold EF1 E_X11_init
  rw [upE_ne (by decide)]
  rw [E_X5_init_ne (by decide) (by decide)]
  rw [upE_ne (by decide)]
  rw [upE_ne (by decide)]
  unfold E_X2_init
  rw [upE_ne (by decide)]
  unfold E_X5_init
  unfold LpE
  rw [if_pos (by decide)]
  rfl
theorem eF_154 {cA : Nat → ClassId} {bs : Nat} {sa : Nat → Nat} {E : Nat → va_E} : EF1 cA bs E 119 = ce cA (adF bs sa) I0 L0 (GRf 0) 154 := by
  unfold EF1 E_X11_init
  rw [upE_ne (by decide)]
  rw [E_X5_init_ne (by decide) (by decide)]
  rw [upE_ne (by decide)]
  rw [upE_ne (by decide)]
  unfold E_X2_init
  rw [upE_ne (by decide)]
  unfold E_X5_init
  unfold LpE
  rw [if_pos (by decide)]
  rfl
theorem eF_155 {cA : Nat → ClassId} {bs : Nat} {sa : Nat → Nat} {E : Nat → va_E} : EF1 cA bs E 120 = ce cA (adF bs sa) I0 L0 (GRf 0) 155 := by
  unfold EF1 E_X11_init
  rw [upE_ne (by decide)]
  rw [E_X5_init_ne (by decide) (by decide)]
  rw [upE_ne (by decide)]
  rw [upE_ne (by decide)]
  unfold E_X2_init
  rw [upE_ne (by decide)]
  unfold E_X5_init
  unfold LpE
  rw [if_pos (by decide)]
  rfl
theorem eF_156 {cA : Nat → ClassId} {bs : Nat} {sa : Nat → Nat} {E : Nat → va_E} : EF1 cA bs E 121 = ce cA (adF bs sa) I0 L0 (GRf 0) 156 := by
  unfold EF1 E_X11_init
  rw [upE_ne (by decide)]
  rw [E_X5_init_ne (by decide) (by decide)]
  rw [upE_ne (by decide)]
  rw [upE_ne (by decide)]
  unfold E_X2_init
  rw [upE_ne (by decide)]
  unfold E_X5_init
  unfold LpE
  rw [if_pos (by decide)]
  rfl
theorem eF_157 {cA : Nat → ClassId} {bs : Nat} {sa : Nat → Nat} {E : Nat → va_E} : EF1 cA bs E 122 = ce cA (adF bs sa) I0 L0 (GRf 0) 157 := by
  unfold EF1 E_X11_init
  rw [upE_ne (by decide)]
  rw [E_X5_init_ne (by decide) (by decide)]
  rw [upE_ne (by decide)]
  rw [upE_ne (by decide)]
  unfold E_X2_init
  rw [upE_ne (by decide)]
  unfold E_X5_init
  unfold LpE
  rw [if_pos (by decide)]
  rfl
theorem eF_158 {cA : Nat → ClassId} {bs : Nat} {sa : Nat → Nat} {E : Nat → va_E} : EF1 cA bs E 123 = ce cA (adF bs sa) I0 L0 (GRf 0) 158 := by
  unfold EF1 E_X11_init
  rw [upE_ne (by decide)]
  rw [E_X5_init_ne (by decide) (by decide)]
  rw [upE_ne (by decide)]
  rw [upE_ne (by decide)]
  unfold E_X2_init
  rw [upE_ne (by decide)]
  unfold E_X5_init
  unfold LpE
  rw [if_pos (by decide)]
  rfl
theorem eF_159 {cA : Nat → ClassId} {bs : Nat} {sa : Nat → Nat} {E : Nat → va_E} : EF1 cA bs E 124 = ce cA (adF bs sa) I0 L0 (GRf 0) 159 := by
  unfold EF1 E_X11_init
  rw [upE_ne (by decide)]
  rw [E_X5_init_ne (by decide) (by decide)]
  rw [upE_ne (by decide)]
  rw [upE_ne (by decide)]
  unfold E_X2_init
  rw [upE_ne (by decide)]
  unfold E_X5_init
  unfold LpE
  rw [if_pos (by decide)]
  rfl
theorem eF_160 {cA : Nat → ClassId} {bs : Nat} {sa : Nat → Nat} {E : Nat → va_E} : EF1 cA bs E 125 = ce cA (adF bs sa) I0 L0 (GRf 0) 160 := by
  unfold EF1 E_X11_init
  rw [upE_ne (by decide)]
  rw [E_X5_init_ne (by decide) (by decide)]
  rw [upE_ne (by decide)]
  rw [upE_ne (by decide)]
  unfold E_X2_init
  rw [upE_ne (by decide)]
  unfold E_X5_init
  unfold LpE
  rw [if_pos (by decide)]
  rfl
theorem eF_161 {cA : Nat → ClassId} {bs : Nat} {sa : Nat → Nat} {E : Nat → va_E} : EF1 cA bs E 126 = ce cA (adF bs sa) I0 L0 (GRf 0) 161 := by
  unfold EF1 E_X11_init
  rw [upE_ne (by decide)]
  rw [E_X5_init_ne (by decide) (by decide)]
  rw [upE_ne (by decide)]
  rw [upE_ne (by decide)]
  unfold E_X2_init
  rw [upE_ne (by decide)]
  unfold E_X5_init
  unfold LpE
  rw [if_pos (by decide)]
  rfl
theorem eF_162 {cA : Nat → ClassId} {bs : Nat} {sa : Nat → Nat} {E : Nat → va_E} : EF1 cA bs E 127 = ce cA (adF bs sa) I0 L0 (GRf 0) 162 := by
  unfold EF1 E_X11_init
  rw [upE_ne (by decide)]
  rw [E_X5_init_ne (by decide) (by decide)]
  rw [upE_ne (by decide)]
  rw [upE_ne (by decide)]
  unfold E_X2_init
  rw [upE_ne (by decide)]
  unfold E_X5_init
  unfold LpE
  rw [if_pos (by decide)]
  rfl
theorem eF_163 {cA : Nat → ClassId} {bs : Nat} {sa : Nat → Nat} {E : Nat → va_E} : EF1 cA bs E 128 = ce cA (adF bs sa) I0 L0 (GRf 0) 163 := by
  unfold EF1 E_X11_init
  rw [upE_ne (by decide)]
  rw [E_X5_init_ne (by decide) (by decide)]
  rw [upE_ne (by decide)]
  rw [upE_ne (by decide)]
  unfold E_X2_init
  rw [upE_ne (by decide)]
  unfold E_X5_init
  unfold LpE
  rw [if_pos (by decide)]
  rfl
theorem eF_164 {cA : Nat → ClassId} {bs : Nat} {sa : Nat → Nat} {E : Nat → va_E} : EF1 cA bs E 129 = ce cA (adF bs sa) I0 L0 (GRf 0) 164 := by
  unfold EF1 E_X11_init
  rw [upE_ne (by decide)]
  rw [E_X5_init_ne (by decide) (by decide)]
  rw [upE_ne (by decide)]
  rw [upE_ne (by decide)]
  unfold E_X2_init
  rw [upE_ne (by decide)]
  unfold E_X5_init
  unfold LpE
  rw [if_pos (by decide)]
  rfl
theorem eF_165 {cA : Nat → ClassId} {bs : Nat} {sa : Nat → Nat} {E : Nat → va_E} : EF1 cA bs E 130 = ce cA (adF bs sa) I0 L0 (GRf 0) 165 := by
  unfold EF1 E_X11_init
  rw [upE_ne (by decide)]
  rw [E_X5_init_ne (by decide) (by decide)]
  rw [upE_ne (by decide)]
  rw [upE_ne (by decide)]
  unfold E_X2_init
  rw [upE_ne (by decide)]
  unfold E_X5_init
  unfold LpE
  rw [if_pos (by decide)]
  rfl
theorem eF_166 {cA : Nat → ClassId} {bs : Nat} {sa : Nat → Nat} {E : Nat → va_E} : EF1 cA bs E 131 = ce cA (adF bs sa) I0 L0 (GRf 0) 166 := by
  unfold EF1 E_X11_init
  rw [upE_ne (by decide)]
  rw [E_X5_init_ne (by decide) (by decide)]
  rw [upE_ne (by decide)]
  rw [upE_ne (by decide)]
  unfold E_X2_init
  rw [upE_ne (by decide)]
  unfold E_X5_init
  unfold LpE
  rw [if_pos (by decide)]
  rfl
theorem eF_167 {cA : Nat → ClassId} {bs : Nat} {sa : Nat → Nat} {E : Nat → va_E} : EF1 cA bs E 132 = ce cA (adF bs sa) I0 L0 (GRf 0) 167 := by
  unfold EF1 E_X11_init
  rw [upE_ne (by decide)]
  rw [E_X5_init_ne (by decide) (by decide)]
  rw [upE_ne (by decide)]
  rw [upE_ne (by decide)]
  unfold E_X2_init
  rw [upE_ne (by decide)]
  unfold E_X5_init
  unfold LpE
  rw [if_pos (by decide)]
  rfl
theorem eF_168 {cA : Nat → ClassId} {bs : Nat} {sa : Nat → Nat} {E : Nat → va_E} : EF1 cA bs E 133 = ce cA (adF bs sa) I0 L0 (GRf 0) 168 := by
  unfold EF1 E_X11_init
  rw [upE_ne (by decide)]
  rw [E_X5_init_ne (by decide) (by decide)]
  rw [upE_ne (by decide)]
  rw [upE_ne (by decide)]
  unfold E_X2_init
  rw [upE_ne (by decide)]
  unfold E_X5_init
  unfold LpE
  rw [if_pos (by decide)]
  rfl
theorem eF_169 {cA : Nat → ClassId} {bs : Nat} {sa : Nat → Nat} {E : Nat → va_E} : EF1 cA bs E 134 = ce cA (adF bs sa) I0 L0 (GRf 0) 169 := by
  unfold EF1 E_X11_init
  rw [upE_ne (by decide)]
  rw [E_X5_init_ne (by decide) (by decide)]
  rw [upE_ne (by decide)]
  rw [upE_ne (by decide)]
  unfold E_X2_init
  rw [upE_ne (by decide)]
  unfold E_X5_init
  unfold LpE
  rw [if_pos (by decide)]
  rfl
theorem eF_170 {cA : Nat → ClassId} {bs : Nat} {sa : Nat → Nat} {E : Nat → va_E} : EF1 cA bs E 135 = ce cA (adF bs sa) I0 L0 (GRf 0) 170 := by
  unfold EF1 E_X11_init
  rw [upE_ne (by decide)]
  rw [E_X5_init_ne (by decide) (by decide)]
  rw [upE_ne (by decide)]
  rw [upE_ne (by decide)]
  unfold E_X2_init
  rw [upE_ne (by decide)]
  unfold E_X5_init
  unfold LpE
  rw [if_pos (by decide)]
  rfl
theorem eF_171 {cA : Nat → ClassId} {bs : Nat} {sa : Nat → Nat} {E : Nat → va_E} : EF1 cA bs E 136 = ce cA (adF bs sa) I0 L0 (GRf 0) 171 := by
  unfold EF1 E_X11_init
  rw [upE_ne (by decide)]
  rw [E_X5_init_ne (by decide) (by decide)]
  rw [upE_ne (by decide)]
  rw [upE_ne (by decide)]
  unfold E_X2_init
  rw [upE_ne (by decide)]
  unfold E_X5_init
  unfold LpE
  rw [if_pos (by decide)]
  rfl
theorem eF_172 {cA : Nat → ClassId} {bs : Nat} {sa : Nat → Nat} {E : Nat → va_E} : EF1 cA bs E 106 = ce cA (adF bs sa) I0 L0 (GRf 0) 172 := by
  unfold EF1 E_X11_init
  rw [upE_ne (by decide)]
  rw [E_X5_init_ne (by decide) (by decide)]
  rw [upE_ne (by decide)]
  rw [upE_ne (by decide)]
  unfold E_X2_init
  rw [upE_ne (by decide)]
  unfold E_X5_init
  rw [LpE_ne (by decide) (by decide)]
  unfold E0_X5_init
  rw [upE_ne (by decide)]
  unfold E_X3_init
  rw [upE_eq (by decide)]
  rfl
theorem eF_173 {cA : Nat → ClassId} {bs : Nat} {sa : Nat → Nat} {E : Nat → va_E} : EF1 cA bs E 140 = ce cA (adF bs sa) I0 L0 (GRf 0) 173 := by
  unfold EF1 E_X11_init
  rw [upE_ne (by decide)]
  unfold E_X5_init
  unfold LpE
  rw [if_pos (by decide)]
  rfl
theorem eF_174 {cA : Nat → ClassId} {bs : Nat} {sa : Nat → Nat} {E : Nat → va_E} : EF1 cA bs E 141 = ce cA (adF bs sa) I0 L0 (GRf 0) 174 := by
  unfold EF1 E_X11_init
  rw [upE_ne (by decide)]
  unfold E_X5_init
  unfold LpE
  rw [if_pos (by decide)]
  rfl
theorem eF_175 {cA : Nat → ClassId} {bs : Nat} {sa : Nat → Nat} {E : Nat → va_E} : EF1 cA bs E 142 = ce cA (adF bs sa) I0 L0 (GRf 0) 175 := by
  unfold EF1 E_X11_init
  rw [upE_ne (by decide)]
  unfold E_X5_init
  unfold LpE
  rw [if_pos (by decide)]
  rfl
theorem eF_176 {cA : Nat → ClassId} {bs : Nat} {sa : Nat → Nat} {E : Nat → va_E} : EF1 cA bs E 143 = ce cA (adF bs sa) I0 L0 (GRf 0) 176 := by
  unfold EF1 E_X11_init
  rw [upE_ne (by decide)]
  unfold E_X5_init
  unfold LpE
  rw [if_pos (by decide)]
  rfl
theorem eF_177 {cA : Nat → ClassId} {bs : Nat} {sa : Nat → Nat} {E : Nat → va_E} : EF1 cA bs E 144 = ce cA (adF bs sa) I0 L0 (GRf 0) 177 := by
  unfold EF1 E_X11_init
  rw [upE_ne (by decide)]
  unfold E_X5_init
  unfold LpE
  rw [if_pos (by decide)]
  rfl
theorem eF_178 {cA : Nat → ClassId} {bs : Nat} {sa : Nat → Nat} {E : Nat → va_E} : EF1 cA bs E 145 = ce cA (adF bs sa) I0 L0 (GRf 0) 178 := by
  unfold EF1 E_X11_init
  rw [upE_ne (by decide)]
  unfold E_X5_init
  unfold LpE
  rw [if_pos (by decide)]
  rfl
theorem eF_179 {cA : Nat → ClassId} {bs : Nat} {sa : Nat → Nat} {E : Nat → va_E} : EF1 cA bs E 146 = ce cA (adF bs sa) I0 L0 (GRf 0) 179 := by
  unfold EF1 E_X11_init
  rw [upE_ne (by decide)]
  unfold E_X5_init
  unfold LpE
  rw [if_pos (by decide)]
  rfl
theorem eF_180 {cA : Nat → ClassId} {bs : Nat} {sa : Nat → Nat} {E : Nat → va_E} : EF1 cA bs E 147 = ce cA (adF bs sa) I0 L0 (GRf 0) 180 := by
  unfold EF1 E_X11_init
  rw [upE_ne (by decide)]
  unfold E_X5_init
  unfold LpE
  rw [if_pos (by decide)]
  rfl
theorem eF_181 {cA : Nat → ClassId} {bs : Nat} {sa : Nat → Nat} {E : Nat → va_E} : EF1 cA bs E 148 = ce cA (adF bs sa) I0 L0 (GRf 0) 181 := by
  unfold EF1 E_X11_init
  rw [upE_ne (by decide)]
  unfold E_X5_init
  unfold LpE
  rw [if_pos (by decide)]
  rfl
theorem eF_182 {cA : Nat → ClassId} {bs : Nat} {sa : Nat → Nat} {E : Nat → va_E} : EF1 cA bs E 149 = ce cA (adF bs sa) I0 L0 (GRf 0) 182 := by
  unfold EF1 E_X11_init
  rw [upE_ne (by decide)]
  unfold E_X5_init
  unfold LpE
  rw [if_pos (by decide)]
  rfl
theorem eF_183 {cA : Nat → ClassId} {bs : Nat} {sa : Nat → Nat} {E : Nat → va_E} : EF1 cA bs E 150 = ce cA (adF bs sa) I0 L0 (GRf 0) 183 := by
  unfold EF1 E_X11_init
  rw [upE_ne (by decide)]
  unfold E_X5_init
  unfold LpE
  rw [if_pos (by decide)]
  rfl
theorem eF_184 {cA : Nat → ClassId} {bs : Nat} {sa : Nat → Nat} {E : Nat → va_E} : EF1 cA bs E 151 = ce cA (adF bs sa) I0 L0 (GRf 0) 184 := by
  unfold EF1 E_X11_init
  rw [upE_ne (by decide)]
  unfold E_X5_init
  unfold LpE
  rw [if_pos (by decide)]
  rfl
theorem eF_185 {cA : Nat → ClassId} {bs : Nat} {sa : Nat → Nat} {E : Nat → va_E} : EF1 cA bs E 152 = ce cA (adF bs sa) I0 L0 (GRf 0) 185 := by
  unfold EF1 E_X11_init
  rw [upE_ne (by decide)]
  unfold E_X5_init
  unfold LpE
  rw [if_pos (by decide)]
  rfl
theorem eF_186 {cA : Nat → ClassId} {bs : Nat} {sa : Nat → Nat} {E : Nat → va_E} : EF1 cA bs E 153 = ce cA (adF bs sa) I0 L0 (GRf 0) 186 := by
  unfold EF1 E_X11_init
  rw [upE_ne (by decide)]
  unfold E_X5_init
  unfold LpE
  rw [if_pos (by decide)]
  rfl
theorem eF_187 {cA : Nat → ClassId} {bs : Nat} {sa : Nat → Nat} {E : Nat → va_E} : EF1 cA bs E 154 = ce cA (adF bs sa) I0 L0 (GRf 0) 187 := by
  unfold EF1 E_X11_init
  rw [upE_ne (by decide)]
  unfold E_X5_init
  unfold LpE
  rw [if_pos (by decide)]
  rfl
theorem eF_188 {cA : Nat → ClassId} {bs : Nat} {sa : Nat → Nat} {E : Nat → va_E} : EF1 cA bs E 155 = ce cA (adF bs sa) I0 L0 (GRf 0) 188 := by
  unfold EF1 E_X11_init
  rw [upE_ne (by decide)]
  unfold E_X5_init
  unfold LpE
  rw [if_pos (by decide)]
  rfl
theorem eF_189 {cA : Nat → ClassId} {bs : Nat} {sa : Nat → Nat} {E : Nat → va_E} : EF1 cA bs E 156 = ce cA (adF bs sa) I0 L0 (GRf 0) 189 := by
  unfold EF1 E_X11_init
  rw [upE_ne (by decide)]
  unfold E_X5_init
  unfold LpE
  rw [if_pos (by decide)]
  rfl
theorem eF_190 {cA : Nat → ClassId} {bs : Nat} {sa : Nat → Nat} {E : Nat → va_E} : EF1 cA bs E 157 = ce cA (adF bs sa) I0 L0 (GRf 0) 190 := by
  unfold EF1 E_X11_init
  rw [upE_ne (by decide)]
  unfold E_X5_init
  unfold LpE
  rw [if_pos (by decide)]
  rfl
theorem eF_191 {cA : Nat → ClassId} {bs : Nat} {sa : Nat → Nat} {E : Nat → va_E} : EF1 cA bs E 158 = ce cA (adF bs sa) I0 L0 (GRf 0) 191 := by
  unfold EF1 E_X11_init
  rw [upE_ne (by decide)]
  unfold E_X5_init
  unfold LpE
  rw [if_pos (by decide)]
  rfl
theorem eF_192 {cA : Nat → ClassId} {bs : Nat} {sa : Nat → Nat} {E : Nat → va_E} : EF1 cA bs E 159 = ce cA (adF bs sa) I0 L0 (GRf 0) 192 := by
  unfold EF1 E_X11_init
  rw [upE_ne (by decide)]
  unfold E_X5_init
  unfold LpE
  rw [if_pos (by decide)]
  rfl
theorem eF_193 {cA : Nat → ClassId} {bs : Nat} {sa : Nat → Nat} {E : Nat → va_E} : EF1 cA bs E 160 = ce cA (adF bs sa) I0 L0 (GRf 0) 193 := by
  unfold EF1 E_X11_init
  rw [upE_ne (by decide)]
  unfold E_X5_init
  unfold LpE
  rw [if_pos (by decide)]
  rfl
theorem eF_194 {cA : Nat → ClassId} {bs : Nat} {sa : Nat → Nat} {E : Nat → va_E} : EF1 cA bs E 161 = ce cA (adF bs sa) I0 L0 (GRf 0) 194 := by
  unfold EF1 E_X11_init
  rw [upE_ne (by decide)]
  unfold E_X5_init
  unfold LpE
  rw [if_pos (by decide)]
  rfl
theorem eF_195 {cA : Nat → ClassId} {bs : Nat} {sa : Nat → Nat} {E : Nat → va_E} : EF1 cA bs E 162 = ce cA (adF bs sa) I0 L0 (GRf 0) 195 := by
  unfold EF1 E_X11_init
  rw [upE_ne (by decide)]
  unfold E_X5_init
  unfold LpE
  rw [if_pos (by decide)]
  rfl
theorem eF_196 {cA : Nat → ClassId} {bs : Nat} {sa : Nat → Nat} {E : Nat → va_E} : EF1 cA bs E 163 = ce cA (adF bs sa) I0 L0 (GRf 0) 196 := by
  unfold EF1 E_X11_init
  rw [upE_ne (by decide)]
  unfold E_X5_init
  unfold LpE
  rw [if_pos (by decide)]
  rfl
theorem eF_197 {cA : Nat → ClassId} {bs : Nat} {sa : Nat → Nat} {E : Nat → va_E} : EF1 cA bs E 164 = ce cA (adF bs sa) I0 L0 (GRf 0) 197 := by
  unfold EF1 E_X11_init
  rw [upE_ne (by decide)]
  unfold E_X5_init
  unfold LpE
  rw [if_pos (by decide)]
  rfl
theorem eF_198 {cA : Nat → ClassId} {bs : Nat} {sa : Nat → Nat} {E : Nat → va_E} : EF1 cA bs E 165 = ce cA (adF bs sa) I0 L0 (GRf 0) 198 := by
  unfold EF1 E_X11_init
  rw [upE_ne (by decide)]
  unfold E_X5_init
  unfold LpE
  rw [if_pos (by decide)]
  rfl
theorem eF_199 {cA : Nat → ClassId} {bs : Nat} {sa : Nat → Nat} {E : Nat → va_E} : EF1 cA bs E 166 = ce cA (adF bs sa) I0 L0 (GRf 0) 199 := by
  unfold EF1 E_X11_init
  rw [upE_ne (by decide)]
  unfold E_X5_init
  unfold LpE
  rw [if_pos (by decide)]
  rfl
theorem eF_200 {cA : Nat → ClassId} {bs : Nat} {sa : Nat → Nat} {E : Nat → va_E} : EF1 cA bs E 167 = ce cA (adF bs sa) I0 L0 (GRf 0) 200 := by
  unfold EF1 E_X11_init
  rw [upE_ne (by decide)]
  unfold E_X5_init
  unfold LpE
  rw [if_pos (by decide)]
  rfl
theorem eF_201 {cA : Nat → ClassId} {bs : Nat} {sa : Nat → Nat} {E : Nat → va_E} : EF1 cA bs E 168 = ce cA (adF bs sa) I0 L0 (GRf 0) 201 := by
  unfold EF1 E_X11_init
  rw [upE_ne (by decide)]
  unfold E_X5_init
  unfold LpE
  rw [if_pos (by decide)]
  rfl
theorem eF_202 {cA : Nat → ClassId} {bs : Nat} {sa : Nat → Nat} {E : Nat → va_E} : EF1 cA bs E 169 = ce cA (adF bs sa) I0 L0 (GRf 0) 202 := by
  unfold EF1 E_X11_init
  rw [upE_ne (by decide)]
  unfold E_X5_init
  unfold LpE
  rw [if_pos (by decide)]
  rfl
theorem eF_203 {cA : Nat → ClassId} {bs : Nat} {sa : Nat → Nat} {E : Nat → va_E} : EF1 cA bs E 139 = ce cA (adF bs sa) I0 L0 (GRf 0) 203 := by
  unfold EF1 E_X11_init
  rw [upE_ne (by decide)]
  unfold E_X5_init
  rw [LpE_ne (by decide) (by decide)]
  unfold E0_X5_init
  rw [upE_ne (by decide)]
  unfold E_X3_init
  rw [upE_eq (by decide)]
  rfl
theorem EM1_hi {cA : Nat → ClassId} {bs k p j : Nat} {E : Nat → va_E} (h : j ≠ p) (hj : j < k + 0) : EM1 cA bs k p E j = EM0 cA bs k p E j := by
  unfold EM1
  repeat rw [upE_ne (by omega)]
theorem EM2_hi {cA : Nat → ClassId} {bs k p j : Nat} {E : Nat → va_E} (h : j ≠ p) (hj : j < k + 4) : EM2 cA bs k p E j = EM1 cA bs k p E j := by
  unfold EM2
  repeat rw [upE_ne (by omega)]
theorem EM3_hi {cA : Nat → ClassId} {bs k p j : Nat} {E : Nat → va_E} (h : j ≠ p) (hj : j < k + 7) : EM3 cA bs k p E j = EM2 cA bs k p E j := by
  unfold EM3
  repeat rw [upE_ne (by omega)]
theorem EM4_hi {cA : Nat → ClassId} {bs k p j : Nat} {E : Nat → va_E} (h : j ≠ p) (hj : j < k + 11) : EM4 cA bs k p E j = EM3 cA bs k p E j := by
  unfold EM4
  repeat rw [upE_ne (by omega)]
theorem EM5_hi {cA : Nat → ClassId} {bs k p j : Nat} {E : Nat → va_E} (h : j ≠ p) (hj : j < k + 15) : EM5 cA bs k p E j = EM4 cA bs k p E j := by
  unfold EM5
  repeat rw [upE_ne (by omega)]
theorem EM6_hi {cA : Nat → ClassId} {bs k p j : Nat} {E : Nat → va_E} (h : j ≠ p) (hj : j < k + 19) : EM6 cA bs k p E j = EM5 cA bs k p E j := by
  unfold EM6
  repeat rw [upE_ne (by omega)]
theorem EM7_hi {cA : Nat → ClassId} {bs k p j : Nat} {E : Nat → va_E} (h : j ≠ p) (hj : j < k + 23) : EM7 cA bs k p E j = EM6 cA bs k p E j := by
  unfold EM7
  repeat rw [upE_ne (by omega)]
theorem EM8_hi {cA : Nat → ClassId} {bs k p j : Nat} {E : Nat → va_E} (h : j ≠ p) (hj : j < k + 27) : EM8 cA bs k p E j = EM7 cA bs k p E j := by
  unfold EM8
  repeat rw [upE_ne (by omega)]
theorem EM9_hi {cA : Nat → ClassId} {bs k p j : Nat} {E : Nat → va_E} (h : j ≠ p) (hj : j < k + 31) : EM9 cA bs k p E j = EM8 cA bs k p E j := by
  unfold EM9
  repeat rw [upE_ne (by omega)]
theorem eF_25 {cA : Nat → ClassId} {bs : Nat} {sa : Nat → Nat} {E : Nat → va_E} : E_X12_init cA bs 171 170 E 171 = ce cA (adF bs sa) I0 L0 (GRf 0) 25 := by
  unfold E_X12_init
  rw [EM9_hi (by decide) (by decide)]
  rw [EM8_hi (by decide) (by decide)]
  rw [EM7_hi (by decide) (by decide)]
  rw [EM6_hi (by decide) (by decide)]
  rw [EM5_hi (by decide) (by decide)]
  rw [EM4_hi (by decide) (by decide)]
  rw [EM3_hi (by decide) (by decide)]
  rw [EM2_hi (by decide) (by decide)]
  unfold EM1
  repeat rw [upE_ne (by decide)]
  rw [upE_eq (by decide)]
  rfl
theorem eF_26 {cA : Nat → ClassId} {bs : Nat} {sa : Nat → Nat} {E : Nat → va_E} : E_X12_init cA bs 171 170 E 172 = ce cA (adF bs sa) I0 L0 (GRf 0) 26 := by
  unfold E_X12_init
  rw [EM9_hi (by decide) (by decide)]
  rw [EM8_hi (by decide) (by decide)]
  rw [EM7_hi (by decide) (by decide)]
  rw [EM6_hi (by decide) (by decide)]
  rw [EM5_hi (by decide) (by decide)]
  rw [EM4_hi (by decide) (by decide)]
  rw [EM3_hi (by decide) (by decide)]
  rw [EM2_hi (by decide) (by decide)]
  unfold EM1
  repeat rw [upE_ne (by decide)]
  rw [upE_eq (by decide)]
  rfl
theorem eF_27 {cA : Nat → ClassId} {bs : Nat} {sa : Nat → Nat} {E : Nat → va_E} : E_X12_init cA bs 171 170 E 173 = ce cA (adF bs sa) I0 L0 (GRf 0) 27 := by
  unfold E_X12_init
  rw [EM9_hi (by decide) (by decide)]
  rw [EM8_hi (by decide) (by decide)]
  rw [EM7_hi (by decide) (by decide)]
  rw [EM6_hi (by decide) (by decide)]
  rw [EM5_hi (by decide) (by decide)]
  rw [EM4_hi (by decide) (by decide)]
  rw [EM3_hi (by decide) (by decide)]
  rw [EM2_hi (by decide) (by decide)]
  unfold EM1
  repeat rw [upE_ne (by decide)]
  rw [upE_eq (by decide)]
  rfl
theorem eF_28 {cA : Nat → ClassId} {bs : Nat} {sa : Nat → Nat} {E : Nat → va_E} : E_X12_init cA bs 171 170 E 174 = ce cA (adF bs sa) I0 L0 (GRf 0) 28 := by
  unfold E_X12_init
  rw [EM9_hi (by decide) (by decide)]
  rw [EM8_hi (by decide) (by decide)]
  rw [EM7_hi (by decide) (by decide)]
  rw [EM6_hi (by decide) (by decide)]
  rw [EM5_hi (by decide) (by decide)]
  rw [EM4_hi (by decide) (by decide)]
  rw [EM3_hi (by decide) (by decide)]
  rw [EM2_hi (by decide) (by decide)]
  unfold EM1
  repeat rw [upE_ne (by decide)]
  rw [upE_eq (by decide)]
  rfl
theorem eF_29 {cA : Nat → ClassId} {bs : Nat} {sa : Nat → Nat} {E : Nat → va_E} : E_X12_init cA bs 171 170 E 175 = ce cA (adF bs sa) I0 L0 (GRf 0) 29 := by
  unfold E_X12_init
  rw [EM9_hi (by decide) (by decide)]
  rw [EM8_hi (by decide) (by decide)]
  rw [EM7_hi (by decide) (by decide)]
  rw [EM6_hi (by decide) (by decide)]
  rw [EM5_hi (by decide) (by decide)]
  rw [EM4_hi (by decide) (by decide)]
  rw [EM3_hi (by decide) (by decide)]
  unfold EM2
  repeat rw [upE_ne (by decide)]
  rw [upE_eq (by decide)]
  rfl
theorem eF_30 {cA : Nat → ClassId} {bs : Nat} {sa : Nat → Nat} {E : Nat → va_E} : E_X12_init cA bs 171 170 E 176 = ce cA (adF bs sa) I0 L0 (GRf 0) 30 := by
  unfold E_X12_init
  rw [EM9_hi (by decide) (by decide)]
  rw [EM8_hi (by decide) (by decide)]
  rw [EM7_hi (by decide) (by decide)]
  rw [EM6_hi (by decide) (by decide)]
  rw [EM5_hi (by decide) (by decide)]
  rw [EM4_hi (by decide) (by decide)]
  rw [EM3_hi (by decide) (by decide)]
  unfold EM2
  repeat rw [upE_ne (by decide)]
  rw [upE_eq (by decide)]
  rfl
theorem eF_31 {cA : Nat → ClassId} {bs : Nat} {sa : Nat → Nat} {E : Nat → va_E} : E_X12_init cA bs 171 170 E 177 = ce cA (adF bs sa) I0 L0 (GRf 0) 31 := by
  unfold E_X12_init
  rw [EM9_hi (by decide) (by decide)]
  rw [EM8_hi (by decide) (by decide)]
  rw [EM7_hi (by decide) (by decide)]
  rw [EM6_hi (by decide) (by decide)]
  rw [EM5_hi (by decide) (by decide)]
  rw [EM4_hi (by decide) (by decide)]
  rw [EM3_hi (by decide) (by decide)]
  unfold EM2
  repeat rw [upE_ne (by decide)]
  rw [upE_eq (by decide)]
  rfl
theorem eF_32 {cA : Nat → ClassId} {bs : Nat} {sa : Nat → Nat} {E : Nat → va_E} : E_X12_init cA bs 171 170 E 178 = ce cA (adF bs sa) I0 L0 (GRf 0) 32 := by
  unfold E_X12_init
  rw [EM9_hi (by decide) (by decide)]
  rw [EM8_hi (by decide) (by decide)]
  rw [EM7_hi (by decide) (by decide)]
  rw [EM6_hi (by decide) (by decide)]
  rw [EM5_hi (by decide) (by decide)]
  rw [EM4_hi (by decide) (by decide)]
  unfold EM3
  repeat rw [upE_ne (by decide)]
  rw [upE_eq (by decide)]
  rfl
theorem eF_33 {cA : Nat → ClassId} {bs : Nat} {sa : Nat → Nat} {E : Nat → va_E} : E_X12_init cA bs 171 170 E 179 = ce cA (adF bs sa) I0 L0 (GRf 0) 33 := by
  unfold E_X12_init
  rw [EM9_hi (by decide) (by decide)]
  rw [EM8_hi (by decide) (by decide)]
  rw [EM7_hi (by decide) (by decide)]
  rw [EM6_hi (by decide) (by decide)]
  rw [EM5_hi (by decide) (by decide)]
  rw [EM4_hi (by decide) (by decide)]
  unfold EM3
  repeat rw [upE_ne (by decide)]
  rw [upE_eq (by decide)]
  rfl
theorem eF_34 {cA : Nat → ClassId} {bs : Nat} {sa : Nat → Nat} {E : Nat → va_E} : E_X12_init cA bs 171 170 E 180 = ce cA (adF bs sa) I0 L0 (GRf 0) 34 := by
  unfold E_X12_init
  rw [EM9_hi (by decide) (by decide)]
  rw [EM8_hi (by decide) (by decide)]
  rw [EM7_hi (by decide) (by decide)]
  rw [EM6_hi (by decide) (by decide)]
  rw [EM5_hi (by decide) (by decide)]
  rw [EM4_hi (by decide) (by decide)]
  unfold EM3
  repeat rw [upE_ne (by decide)]
  rw [upE_eq (by decide)]
  rfl
theorem eF_35 {cA : Nat → ClassId} {bs : Nat} {sa : Nat → Nat} {E : Nat → va_E} : E_X12_init cA bs 171 170 E 181 = ce cA (adF bs sa) I0 L0 (GRf 0) 35 := by
  unfold E_X12_init
  rw [EM9_hi (by decide) (by decide)]
  rw [EM8_hi (by decide) (by decide)]
  rw [EM7_hi (by decide) (by decide)]
  rw [EM6_hi (by decide) (by decide)]
  rw [EM5_hi (by decide) (by decide)]
  rw [EM4_hi (by decide) (by decide)]
  unfold EM3
  repeat rw [upE_ne (by decide)]
  rw [upE_eq (by decide)]
  rfl
theorem eF_36 {cA : Nat → ClassId} {bs : Nat} {sa : Nat → Nat} {E : Nat → va_E} : E_X12_init cA bs 171 170 E 182 = ce cA (adF bs sa) I0 L0 (GRf 0) 36 := by
  unfold E_X12_init
  rw [EM9_hi (by decide) (by decide)]
  rw [EM8_hi (by decide) (by decide)]
  rw [EM7_hi (by decide) (by decide)]
  rw [EM6_hi (by decide) (by decide)]
  rw [EM5_hi (by decide) (by decide)]
  unfold EM4
  repeat rw [upE_ne (by decide)]
  rw [upE_eq (by decide)]
  rfl
theorem eF_37 {cA : Nat → ClassId} {bs : Nat} {sa : Nat → Nat} {E : Nat → va_E} : E_X12_init cA bs 171 170 E 183 = ce cA (adF bs sa) I0 L0 (GRf 0) 37 := by
  unfold E_X12_init
  rw [EM9_hi (by decide) (by decide)]
  rw [EM8_hi (by decide) (by decide)]
  rw [EM7_hi (by decide) (by decide)]
  rw [EM6_hi (by decide) (by decide)]
  rw [EM5_hi (by decide) (by decide)]
  unfold EM4
  repeat rw [upE_ne (by decide)]
  rw [upE_eq (by decide)]
  rfl
theorem eF_38 {cA : Nat → ClassId} {bs : Nat} {sa : Nat → Nat} {E : Nat → va_E} : E_X12_init cA bs 171 170 E 184 = ce cA (adF bs sa) I0 L0 (GRf 0) 38 := by
  unfold E_X12_init
  rw [EM9_hi (by decide) (by decide)]
  rw [EM8_hi (by decide) (by decide)]
  rw [EM7_hi (by decide) (by decide)]
  rw [EM6_hi (by decide) (by decide)]
  rw [EM5_hi (by decide) (by decide)]
  unfold EM4
  repeat rw [upE_ne (by decide)]
  rw [upE_eq (by decide)]
  rfl
theorem eF_39 {cA : Nat → ClassId} {bs : Nat} {sa : Nat → Nat} {E : Nat → va_E} : E_X12_init cA bs 171 170 E 185 = ce cA (adF bs sa) I0 L0 (GRf 0) 39 := by
  unfold E_X12_init
  rw [EM9_hi (by decide) (by decide)]
  rw [EM8_hi (by decide) (by decide)]
  rw [EM7_hi (by decide) (by decide)]
  rw [EM6_hi (by decide) (by decide)]
  rw [EM5_hi (by decide) (by decide)]
  unfold EM4
  repeat rw [upE_ne (by decide)]
  rw [upE_eq (by decide)]
  rfl
theorem eF_40 {cA : Nat → ClassId} {bs : Nat} {sa : Nat → Nat} {E : Nat → va_E} : E_X12_init cA bs 171 170 E 186 = ce cA (adF bs sa) I0 L0 (GRf 0) 40 := by
  unfold E_X12_init
  rw [EM9_hi (by decide) (by decide)]
  rw [EM8_hi (by decide) (by decide)]
  rw [EM7_hi (by decide) (by decide)]
  rw [EM6_hi (by decide) (by decide)]
  unfold EM5
  repeat rw [upE_ne (by decide)]
  rw [upE_eq (by decide)]
  rfl
theorem eF_41 {cA : Nat → ClassId} {bs : Nat} {sa : Nat → Nat} {E : Nat → va_E} : E_X12_init cA bs 171 170 E 187 = ce cA (adF bs sa) I0 L0 (GRf 0) 41 := by
  unfold E_X12_init
  rw [EM9_hi (by decide) (by decide)]
  rw [EM8_hi (by decide) (by decide)]
  rw [EM7_hi (by decide) (by decide)]
  rw [EM6_hi (by decide) (by decide)]
  unfold EM5
  repeat rw [upE_ne (by decide)]
  rw [upE_eq (by decide)]
  rfl
theorem eF_42 {cA : Nat → ClassId} {bs : Nat} {sa : Nat → Nat} {E : Nat → va_E} : E_X12_init cA bs 171 170 E 188 = ce cA (adF bs sa) I0 L0 (GRf 0) 42 := by
  unfold E_X12_init
  rw [EM9_hi (by decide) (by decide)]
  rw [EM8_hi (by decide) (by decide)]
  rw [EM7_hi (by decide) (by decide)]
  rw [EM6_hi (by decide) (by decide)]
  unfold EM5
  repeat rw [upE_ne (by decide)]
  rw [upE_eq (by decide)]
  rfl
theorem eF_43 {cA : Nat → ClassId} {bs : Nat} {sa : Nat → Nat} {E : Nat → va_E} : E_X12_init cA bs 171 170 E 189 = ce cA (adF bs sa) I0 L0 (GRf 0) 43 := by
  unfold E_X12_init
  rw [EM9_hi (by decide) (by decide)]
  rw [EM8_hi (by decide) (by decide)]
  rw [EM7_hi (by decide) (by decide)]
  rw [EM6_hi (by decide) (by decide)]
  unfold EM5
  repeat rw [upE_ne (by decide)]
  rw [upE_eq (by decide)]
  rfl
theorem eF_44 {cA : Nat → ClassId} {bs : Nat} {sa : Nat → Nat} {E : Nat → va_E} : E_X12_init cA bs 171 170 E 190 = ce cA (adF bs sa) I0 L0 (GRf 0) 44 := by
  unfold E_X12_init
  rw [EM9_hi (by decide) (by decide)]
  rw [EM8_hi (by decide) (by decide)]
  rw [EM7_hi (by decide) (by decide)]
  unfold EM6
  repeat rw [upE_ne (by decide)]
  rw [upE_eq (by decide)]
  rfl
theorem eF_45 {cA : Nat → ClassId} {bs : Nat} {sa : Nat → Nat} {E : Nat → va_E} : E_X12_init cA bs 171 170 E 191 = ce cA (adF bs sa) I0 L0 (GRf 0) 45 := by
  unfold E_X12_init
  rw [EM9_hi (by decide) (by decide)]
  rw [EM8_hi (by decide) (by decide)]
  rw [EM7_hi (by decide) (by decide)]
  unfold EM6
  repeat rw [upE_ne (by decide)]
  rw [upE_eq (by decide)]
  rfl
theorem eF_46 {cA : Nat → ClassId} {bs : Nat} {sa : Nat → Nat} {E : Nat → va_E} : E_X12_init cA bs 171 170 E 192 = ce cA (adF bs sa) I0 L0 (GRf 0) 46 := by
  unfold E_X12_init
  rw [EM9_hi (by decide) (by decide)]
  rw [EM8_hi (by decide) (by decide)]
  rw [EM7_hi (by decide) (by decide)]
  unfold EM6
  repeat rw [upE_ne (by decide)]
  rw [upE_eq (by decide)]
  rfl
theorem eF_47 {cA : Nat → ClassId} {bs : Nat} {sa : Nat → Nat} {E : Nat → va_E} : E_X12_init cA bs 171 170 E 193 = ce cA (adF bs sa) I0 L0 (GRf 0) 47 := by
  unfold E_X12_init
  rw [EM9_hi (by decide) (by decide)]
  rw [EM8_hi (by decide) (by decide)]
  rw [EM7_hi (by decide) (by decide)]
  unfold EM6
  repeat rw [upE_ne (by decide)]
  rw [upE_eq (by decide)]
  rfl
theorem eF_48 {cA : Nat → ClassId} {bs : Nat} {sa : Nat → Nat} {E : Nat → va_E} : E_X12_init cA bs 171 170 E 194 = ce cA (adF bs sa) I0 L0 (GRf 0) 48 := by
  unfold E_X12_init
  rw [EM9_hi (by decide) (by decide)]
  rw [EM8_hi (by decide) (by decide)]
  unfold EM7
  repeat rw [upE_ne (by decide)]
  rw [upE_eq (by decide)]
  rfl
theorem eF_49 {cA : Nat → ClassId} {bs : Nat} {sa : Nat → Nat} {E : Nat → va_E} : E_X12_init cA bs 171 170 E 195 = ce cA (adF bs sa) I0 L0 (GRf 0) 49 := by
  unfold E_X12_init
  rw [EM9_hi (by decide) (by decide)]
  rw [EM8_hi (by decide) (by decide)]
  unfold EM7
  repeat rw [upE_ne (by decide)]
  rw [upE_eq (by decide)]
  rfl
theorem eF_50 {cA : Nat → ClassId} {bs : Nat} {sa : Nat → Nat} {E : Nat → va_E} : E_X12_init cA bs 171 170 E 196 = ce cA (adF bs sa) I0 L0 (GRf 0) 50 := by
  unfold E_X12_init
  rw [EM9_hi (by decide) (by decide)]
  rw [EM8_hi (by decide) (by decide)]
  unfold EM7
  repeat rw [upE_ne (by decide)]
  rw [upE_eq (by decide)]
  rfl
theorem eF_51 {cA : Nat → ClassId} {bs : Nat} {sa : Nat → Nat} {E : Nat → va_E} : E_X12_init cA bs 171 170 E 197 = ce cA (adF bs sa) I0 L0 (GRf 0) 51 := by
  unfold E_X12_init
  rw [EM9_hi (by decide) (by decide)]
  rw [EM8_hi (by decide) (by decide)]
  unfold EM7
  repeat rw [upE_ne (by decide)]
  rw [upE_eq (by decide)]
  rfl
theorem eF_52 {cA : Nat → ClassId} {bs : Nat} {sa : Nat → Nat} {E : Nat → va_E} : E_X12_init cA bs 171 170 E 198 = ce cA (adF bs sa) I0 L0 (GRf 0) 52 := by
  unfold E_X12_init
  rw [EM9_hi (by decide) (by decide)]
  unfold EM8
  repeat rw [upE_ne (by decide)]
  rw [upE_eq (by decide)]
  rfl
theorem eF_53 {cA : Nat → ClassId} {bs : Nat} {sa : Nat → Nat} {E : Nat → va_E} : E_X12_init cA bs 171 170 E 199 = ce cA (adF bs sa) I0 L0 (GRf 0) 53 := by
  unfold E_X12_init
  rw [EM9_hi (by decide) (by decide)]
  unfold EM8
  repeat rw [upE_ne (by decide)]
  rw [upE_eq (by decide)]
  rfl
theorem eF_54 {cA : Nat → ClassId} {bs : Nat} {sa : Nat → Nat} {E : Nat → va_E} : E_X12_init cA bs 171 170 E 200 = ce cA (adF bs sa) I0 L0 (GRf 0) 54 := by
  unfold E_X12_init
  rw [EM9_hi (by decide) (by decide)]
  unfold EM8
  repeat rw [upE_ne (by decide)]
  rw [upE_eq (by decide)]
  rfl
theorem eF_55 {cA : Nat → ClassId} {bs : Nat} {sa : Nat → Nat} {E : Nat → va_E} : E_X12_init cA bs 171 170 E 201 = ce cA (adF bs sa) I0 L0 (GRf 0) 55 := by
  unfold E_X12_init
  rw [EM9_hi (by decide) (by decide)]
  unfold EM8
  repeat rw [upE_ne (by decide)]
  rw [upE_eq (by decide)]
  rfl
theorem eF_56 {cA : Nat → ClassId} {bs : Nat} {sa : Nat → Nat} {E : Nat → va_E} : E_X12_init cA bs 171 170 E 202 = ce cA (adF bs sa) I0 L0 (GRf 0) 56 := by
  unfold E_X12_init
  unfold EM9
  repeat rw [upE_ne (by decide)]
  rw [upE_eq (by decide)]
  rfl
set_option maxRecDepth 100000 in
theorem fsMx_0 {bs k : Nat} : fsM0 bs k = [.null, .null, .null, .null, .null, .int 0, .null, .int 0, .null, .int 0, .int 0, .int 0, .int 0, .int 0, .int 0, .int 0, .int 0, .int 0, .null, .null, .null, .int 0, .null, .null, .null, .int 0, .int 0, .int 0, .int 0, .null, .null, .null, .null, .null, .int 0, .int 0, .null, .null, .null, .int 0, .int 0, .int 0, .int 0, .int 0, .int 0, .int 0, .int 0, .int 0, .int 0, .int 0, .int 0, .null, .null, .int 0, .int 0, .null, .null, .null, .null, .null, .null, .null, .null, .null] := by
  rfl
set_option maxRecDepth 100000 in
theorem fsMx_1 {bs k : Nat} : fsM1 bs k = [.ref (bs + (k + 0)), .ref (bs + (k + 1)), .ref (bs + (k + 2)), .ref (bs + (k + 3)), .null, .int 0, .null, .int 0, .null, .int 0, .int 0, .int 0, .int 0, .int 0, .int 0, .int 0, .int 0, .int 0, .null, .null, .null, .int 0, .null, .null, .null, .int 0, .int 0, .int 0, .int 0, .null, .null, .null, .null, .null, .int 0, .int 0, .null, .null, .null, .int 0, .int 0, .int 0, .int 0, .int 0, .int 0, .int 0, .int 0, .int 0, .int 0, .int 0, .int 0, .null, .null, .int 0, .int 0, .null, .null, .null, .null, .null, .null, .null, .null, .null] := by
  unfold fsM1
  rw [fsMx_0]
  rfl
set_option maxRecDepth 100000 in
theorem fsMx_2 {bs k : Nat} : fsM2 bs k = [.ref (bs + (k + 0)), .ref (bs + (k + 1)), .ref (bs + (k + 2)), .ref (bs + (k + 3)), .ref (bs + (k + 4)), .int 0, .ref (bs + (k + 5)), .int 0, .ref (bs + (k + 6)), .int 0, .int 0, .int 0, .int 0, .int 0, .int 0, .int 0, .int (-1), .int 0, .null, .null, .null, .int 0, .null, .null, .null, .int 0, .int 0, .int 0, .int 0, .null, .null, .null, .null, .null, .int 0, .int 0, .null, .null, .null, .int 0, .int 0, .int 0, .int 0, .int 0, .int 0, .int 0, .int 0, .int 0, .int 0, .int 0, .int 0, .null, .null, .int 0, .int 0, .null, .null, .null, .null, .null, .null, .null, .null, .null] := by
  unfold fsM2
  rw [fsMx_1]
  rfl
set_option maxRecDepth 100000 in
theorem fsMx_3 {bs k : Nat} : fsM3 bs k = [.ref (bs + (k + 0)), .ref (bs + (k + 1)), .ref (bs + (k + 2)), .ref (bs + (k + 3)), .ref (bs + (k + 4)), .int 0, .ref (bs + (k + 5)), .int 0, .ref (bs + (k + 6)), .int 0, .int 0, .int 0, .int 0, .int 0, .int 0, .int 0, .int (-1), .int 0, .ref (bs + (k + 7)), .ref (bs + (k + 8)), .ref (bs + (k + 9)), .int 0, .ref (bs + (k + 10)), .null, .null, .int 0, .int 0, .int 0, .int 0, .null, .null, .null, .null, .null, .int 0, .int 0, .null, .null, .null, .int 0, .int 0, .int 0, .int 0, .int 0, .int 0, .int 0, .int 0, .int 0, .int 0, .int 0, .int 0, .null, .null, .int 0, .int 0, .null, .null, .null, .null, .null, .null, .null, .null, .null] := by
  unfold fsM3
  rw [fsMx_2]
  rfl
set_option maxRecDepth 100000 in
theorem fsMx_4 {bs k : Nat} : fsM4 bs k = [.ref (bs + (k + 0)), .ref (bs + (k + 1)), .ref (bs + (k + 2)), .ref (bs + (k + 3)), .ref (bs + (k + 4)), .int 0, .ref (bs + (k + 5)), .int 0, .ref (bs + (k + 6)), .int 0, .int 0, .int 0, .int 0, .int 0, .int 0, .int 0, .int (-1), .int 0, .ref (bs + (k + 7)), .ref (bs + (k + 8)), .ref (bs + (k + 9)), .int 0, .ref (bs + (k + 10)), .ref (bs + (k + 11)), .ref (bs + (k + 12)), .int 0, .int 0, .int 0, .int 0, .ref (bs + (k + 13)), .ref (bs + (k + 14)), .null, .null, .null, .int 0, .int 0, .null, .null, .null, .int 0, .int 0, .int 0, .int 0, .int 0, .int 0, .int 0, .int 0, .int 0, .int 0, .int 0, .int 0, .null, .null, .int 0, .int 0, .null, .null, .null, .null, .null, .null, .null, .null, .null] := by
  unfold fsM4
  rw [fsMx_3]
  rfl
set_option maxRecDepth 100000 in
theorem fsMx_5 {bs k : Nat} : fsM5 bs k = [.ref (bs + (k + 0)), .ref (bs + (k + 1)), .ref (bs + (k + 2)), .ref (bs + (k + 3)), .ref (bs + (k + 4)), .int 0, .ref (bs + (k + 5)), .int 0, .ref (bs + (k + 6)), .int 0, .int 0, .int 0, .int 0, .int 0, .int 0, .int 0, .int (-1), .int 0, .ref (bs + (k + 7)), .ref (bs + (k + 8)), .ref (bs + (k + 9)), .int 0, .ref (bs + (k + 10)), .ref (bs + (k + 11)), .ref (bs + (k + 12)), .int 0, .int 0, .int 0, .int 0, .ref (bs + (k + 13)), .ref (bs + (k + 14)), .ref (bs + (k + 15)), .ref (bs + (k + 16)), .ref (bs + (k + 17)), .int 0, .int 0, .ref (bs + (k + 18)), .null, .null, .int 0, .int 0, .int 0, .int 0, .int 0, .int 0, .int 0, .int 0, .int 0, .int 0, .int 0, .int 0, .null, .null, .int 0, .int 0, .null, .null, .null, .null, .null, .null, .null, .null, .null] := by
  unfold fsM5
  rw [fsMx_4]
  rfl
set_option maxRecDepth 100000 in
theorem fsMx_6 {bs k : Nat} : fsM6 bs k = [.ref (bs + (k + 0)), .ref (bs + (k + 1)), .ref (bs + (k + 2)), .ref (bs + (k + 3)), .ref (bs + (k + 4)), .int 0, .ref (bs + (k + 5)), .int 0, .ref (bs + (k + 6)), .int 0, .int 0, .int 0, .int 0, .int 0, .int 0, .int 0, .int (-1), .int 0, .ref (bs + (k + 7)), .ref (bs + (k + 8)), .ref (bs + (k + 9)), .int 0, .ref (bs + (k + 10)), .ref (bs + (k + 11)), .ref (bs + (k + 12)), .int 0, .int 0, .int 0, .int 0, .ref (bs + (k + 13)), .ref (bs + (k + 14)), .ref (bs + (k + 15)), .ref (bs + (k + 16)), .ref (bs + (k + 17)), .int 0, .int 0, .ref (bs + (k + 18)), .ref (bs + (k + 19)), .ref (bs + (k + 20)), .int 0, .int 0, .int 0, .int 0, .int 0, .int 0, .int 0, .int 0, .int 0, .int 0, .int 0, .int 0, .ref (bs + (k + 21)), .ref (bs + (k + 22)), .int 0, .int 0, .null, .null, .null, .null, .null, .null, .null, .null, .null] := by
  unfold fsM6
  rw [fsMx_5]
  rfl
set_option maxRecDepth 100000 in
theorem fsMx_7 {bs k : Nat} : fsM7 bs k = [.ref (bs + (k + 0)), .ref (bs + (k + 1)), .ref (bs + (k + 2)), .ref (bs + (k + 3)), .ref (bs + (k + 4)), .int 0, .ref (bs + (k + 5)), .int 0, .ref (bs + (k + 6)), .int 0, .int 0, .int 0, .int 0, .int 0, .int 0, .int 0, .int (-1), .int 0, .ref (bs + (k + 7)), .ref (bs + (k + 8)), .ref (bs + (k + 9)), .int 0, .ref (bs + (k + 10)), .ref (bs + (k + 11)), .ref (bs + (k + 12)), .int 0, .int 0, .int 0, .int 0, .ref (bs + (k + 13)), .ref (bs + (k + 14)), .ref (bs + (k + 15)), .ref (bs + (k + 16)), .ref (bs + (k + 17)), .int 0, .int 0, .ref (bs + (k + 18)), .ref (bs + (k + 19)), .ref (bs + (k + 20)), .int 0, .int 0, .int 0, .int 0, .int 0, .int 0, .int 0, .int 0, .int 0, .int 0, .int 0, .int 0, .ref (bs + (k + 21)), .ref (bs + (k + 22)), .int 0, .int 0, .ref (bs + (k + 23)), .ref (bs + (k + 24)), .ref (bs + (k + 25)), .ref (bs + (k + 26)), .null, .null, .null, .null, .null] := by
  unfold fsM7
  rw [fsMx_6]
  rfl
set_option maxRecDepth 100000 in
theorem fsMx_8 {bs k : Nat} : fsM8 bs k = [.ref (bs + (k + 0)), .ref (bs + (k + 1)), .ref (bs + (k + 2)), .ref (bs + (k + 3)), .ref (bs + (k + 4)), .int 0, .ref (bs + (k + 5)), .int 0, .ref (bs + (k + 6)), .int 0, .int 0, .int 0, .int 0, .int 0, .int 0, .int 0, .int (-1), .int 0, .ref (bs + (k + 7)), .ref (bs + (k + 8)), .ref (bs + (k + 9)), .int 0, .ref (bs + (k + 10)), .ref (bs + (k + 11)), .ref (bs + (k + 12)), .int 0, .int 0, .int 0, .int 0, .ref (bs + (k + 13)), .ref (bs + (k + 14)), .ref (bs + (k + 15)), .ref (bs + (k + 16)), .ref (bs + (k + 17)), .int 0, .int 0, .ref (bs + (k + 18)), .ref (bs + (k + 19)), .ref (bs + (k + 20)), .int 0, .int 0, .int 0, .int 0, .int 0, .int 0, .int 0, .int 0, .int 0, .int 0, .int 0, .int 0, .ref (bs + (k + 21)), .ref (bs + (k + 22)), .int 0, .int 0, .ref (bs + (k + 23)), .ref (bs + (k + 24)), .ref (bs + (k + 25)), .ref (bs + (k + 26)), .ref (bs + (k + 27)), .ref (bs + (k + 28)), .ref (bs + (k + 29)), .ref (bs + (k + 30)), .null] := by
  unfold fsM8
  rw [fsMx_7]
  rfl
set_option maxRecDepth 100000 in
theorem fsMx_9 {bs k : Nat} : fsM9 bs k = [.ref (bs + (k + 0)), .ref (bs + (k + 1)), .ref (bs + (k + 2)), .ref (bs + (k + 3)), .ref (bs + (k + 4)), .int 0, .ref (bs + (k + 5)), .int 0, .ref (bs + (k + 6)), .int 0, .int 0, .int 0, .int 0, .int 0, .int 0, .int 0, .int (-1), .int 0, .ref (bs + (k + 7)), .ref (bs + (k + 8)), .ref (bs + (k + 9)), .int 0, .ref (bs + (k + 10)), .ref (bs + (k + 11)), .ref (bs + (k + 12)), .int 0, .int 0, .int 0, .int 0, .ref (bs + (k + 13)), .ref (bs + (k + 14)), .ref (bs + (k + 15)), .ref (bs + (k + 16)), .ref (bs + (k + 17)), .int 0, .int 0, .ref (bs + (k + 18)), .ref (bs + (k + 19)), .ref (bs + (k + 20)), .int 0, .int 0, .int 0, .int 0, .int 0, .int 0, .int 0, .int 0, .int 0, .int 0, .int 0, .int 0, .ref (bs + (k + 21)), .ref (bs + (k + 22)), .int 0, .int 0, .ref (bs + (k + 23)), .ref (bs + (k + 24)), .ref (bs + (k + 25)), .ref (bs + (k + 26)), .ref (bs + (k + 27)), .ref (bs + (k + 28)), .ref (bs + (k + 29)), .ref (bs + (k + 30)), .ref (bs + (k + 31))] := by
  unfold fsM9
  rw [fsMx_8]
  rfl
set_option maxRecDepth 100000 in
set_option maxHeartbeats 8000000 in
theorem eF_24 {cA : Nat → ClassId} {bs : Nat} {sa : Nat → Nat} {E : Nat → va_E} (he : E 170 = .inr (11, dfl 11)) : E_X12_init cA bs 171 170 E 170 = ce cA (adF bs sa) I0 L0 (GRf 0) 24 := by
  unfold E_X12_init
  rw [EM9_p he, fsMx_9]
  rfl
theorem eF_57 {cA : Nat → ClassId} {bs : Nat} {sa : Nat → Nat} {E : Nat → va_E} : EF cA bs E 203 = ce cA (adF bs sa) I0 L0 (GRf 0) 57 := upE_at
