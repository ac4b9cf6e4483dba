theorem upE_eq {E : Nat → va_E} {p j : Nat} {x : va_E} (h : j = p) : upE E p x j = x := by subst h; exact upE_at
theorem eF_0 {cA : Nat → ClassId} {bs : Nat} {sa : Nat → Nat} {E : Nat → va_E} : EF1 cA bs E 0 = ce cA (adF bs sa) I0 L0 (GRf 0) 0 := by
  unfold EF1 E_X11_init
  rw [upE_eq (by decide)]
  rfl
theorem eF_1 {cA : Nat → ClassId} {bs : Nat} {sa : Nat → Nat} {E : Nat → va_E} : EF1 cA bs E 1 = ce cA (adF bs sa) I0 L0 (GRf 0) 1 := by
  unfold EF1 E_X11_init
  rw [upE_ne (by decide)]
  rw [E_X5_init_ne (by decide) (by decide)]
  rw [upE_ne (by decide)]
  rw [upE_ne (by decide)]
  rw [E_X2_init_ne (by decide) (by decide)]
  rw [upE_ne (by decide)]
  rw [upE_ne (by decide)]
  rw [upE_ne (by decide)]
  rw [E_X0_init_ne (by decide) (by decide)]
  rw [upE_ne (by decide)]
  rw [upE_ne (by decide)]
  rw [E_X8_init_ne (by decide) (by decide)]
  rw [upE_ne (by decide)]
  unfold E_X10_init
  rw [LyE_ne (by decide) (by decide)]
  unfold E0_X10_init
  rw [upE_eq (by decide)]
  rfl
theorem eF_2 {cA : Nat → ClassId} {bs : Nat} {sa : Nat → Nat} {E : Nat → va_E} : EF1 cA bs E 2 = ce cA (adF bs sa) I0 L0 (GRf 0) 2 := by
  unfold EF1 E_X11_init
  rw [upE_ne (by decide)]
  rw [E_X5_init_ne (by decide) (by decide)]
  rw [upE_ne (by decide)]
  rw [upE_ne (by decide)]
  rw [E_X2_init_ne (by decide) (by decide)]
  rw [upE_ne (by decide)]
  rw [upE_ne (by decide)]
  rw [upE_ne (by decide)]
  rw [E_X0_init_ne (by decide) (by decide)]
  rw [upE_ne (by decide)]
  rw [upE_ne (by decide)]
  rw [E_X8_init_ne (by decide) (by decide)]
  rw [upE_ne (by decide)]
  unfold E_X10_init
  rw [LyE_pa (by decide)]
  rw [ce_U (by decide)]
  have e9 : (fun y => if y < 20 then some (bs + (1 + 1 + 6 + 4 * y)) else none) = fun j => (GRf 0 2 j).map (adF bs sa) := by
    funext y
    by_cases h : y < 20
    · rw [if_pos h, show GRf 0 2 y = some (U y) by simp [GRf, h], Option.map_some]
      have e8 : adF bs sa (U y) = bs + (8 + 4 * y) := by
        unfold adF ordN U
        rw [if_pos (by omega), if_neg (by omega), if_neg (by omega), if_neg (by omega), if_neg (by omega), if_neg (by omega), if_pos (by omega)]
        omega
      rw [e8]
    · rw [if_neg h, show GRf 0 2 y = none by simp [GRf, h]]
      rfl
  rw [e9]
  rfl
theorem eF_3 {cA : Nat → ClassId} {bs : Nat} {sa : Nat → Nat} {E : Nat → va_E} : EF1 cA bs E 7 = ce cA (adF bs sa) I0 L0 (GRf 0) 3 := by
  unfold EF1 E_X11_init
  rw [upE_ne (by decide)]
  rw [E_X5_init_ne (by decide) (by decide)]
  rw [upE_ne (by decide)]
  rw [upE_ne (by decide)]
  rw [E_X2_init_ne (by decide) (by decide)]
  rw [upE_ne (by decide)]
  rw [upE_ne (by decide)]
  rw [upE_ne (by decide)]
  rw [E_X0_init_ne (by decide) (by decide)]
  rw [upE_ne (by decide)]
  rw [upE_ne (by decide)]
  rw [E_X8_init_ne (by decide) (by decide)]
  rw [upE_ne (by decide)]
  unfold E_X10_init
  rw [LyE_ne (by decide) (by decide)]
  unfold E0_X10_init
  rw [upE_ne (by decide)]
  rw [upE_eq (by decide)]
  rfl
theorem eF_4 {cA : Nat → ClassId} {bs : Nat} {sa : Nat → Nat} {E : Nat → va_E} : EF1 cA bs E 88 = ce cA (adF bs sa) I0 L0 (GRf 0) 4 := by
  unfold EF1 E_X11_init
  rw [upE_ne (by decide)]
  rw [E_X5_init_ne (by decide) (by decide)]
  rw [upE_ne (by decide)]
  rw [upE_ne (by decide)]
  rw [E_X2_init_ne (by decide) (by decide)]
  rw [upE_ne (by decide)]
  rw [upE_ne (by decide)]
  rw [upE_ne (by decide)]
  rw [E_X0_init_ne (by decide) (by decide)]
  rw [upE_ne (by decide)]
  rw [upE_ne (by decide)]
  unfold E_X8_init
  rw [upE_eq (by decide)]
  rfl
theorem eF_5 {cA : Nat → ClassId} {bs : Nat} {sa : Nat → Nat} {E : Nat → va_E} : EF1 cA bs E 89 = ce cA (adF bs sa) I0 L0 (GRf 0) 5 := by
  unfold EF1 E_X11_init
  rw [upE_ne (by decide)]
  rw [E_X5_init_ne (by decide) (by decide)]
  rw [upE_ne (by decide)]
  rw [upE_ne (by decide)]
  rw [E_X2_init_ne (by decide) (by decide)]
  rw [upE_ne (by decide)]
  rw [upE_ne (by decide)]
  rw [upE_ne (by decide)]
  rw [E_X0_init_ne (by decide) (by decide)]
  rw [upE_ne (by decide)]
  rw [upE_ne (by decide)]
  unfold E_X8_init
  rw [upE_ne (by decide)]
  rw [upE_ne (by decide)]
  rw [upE_eq (by decide)]
  rfl
theorem eF_6 {cA : Nat → ClassId} {bs : Nat} {sa : Nat → Nat} {E : Nat → va_E} : EF1 cA bs E 90 = ce cA (adF bs sa) I0 L0 (GRf 0) 6 := by
  unfold EF1 E_X11_init
  rw [upE_ne (by decide)]
  rw [E_X5_init_ne (by decide) (by decide)]
  rw [upE_ne (by decide)]
  rw [upE_ne (by decide)]
  rw [E_X2_init_ne (by decide) (by decide)]
  rw [upE_ne (by decide)]
  rw [upE_ne (by decide)]
  rw [upE_ne (by decide)]
  unfold E_X0_init
  rw [upE_eq (by decide)]
  rfl
theorem eF_7 {cA : Nat → ClassId} {bs : Nat} {sa : Nat → Nat} {E : Nat → va_E} : EF1 cA bs E 91 = ce cA (adF bs sa) I0 L0 (GRf 0) 7 := by
  unfold EF1 E_X11_init
  rw [upE_ne (by decide)]
  rw [E_X5_init_ne (by decide) (by decide)]
  rw [upE_ne (by decide)]
  rw [upE_ne (by decide)]
  rw [E_X2_init_ne (by decide) (by decide)]
  rw [upE_ne (by decide)]
  rw [upE_ne (by decide)]
  rw [upE_ne (by decide)]
  unfold E_X0_init
  rw [upE_ne (by decide)]
  rw [upE_ne (by decide)]
  rw [upE_ne (by decide)]
  rw [upE_ne (by decide)]
  rw [upE_ne (by decide)]
  rw [upE_eq (by decide)]
  rfl
theorem eF_8 {cA : Nat → ClassId} {bs : Nat} {sa : Nat → Nat} {E : Nat → va_E} : EF1 cA bs E 92 = ce cA (adF bs sa) I0 L0 (GRf 0) 8 := by
  unfold EF1 E_X11_init
  rw [upE_ne (by decide)]
  rw [E_X5_init_ne (by decide) (by decide)]
  rw [upE_ne (by decide)]
  rw [upE_ne (by decide)]
  rw [E_X2_init_ne (by decide) (by decide)]
  rw [upE_ne (by decide)]
  rw [upE_ne (by decide)]
  rw [upE_ne (by decide)]
  unfold E_X0_init
  rw [upE_ne (by decide)]
  rw [upE_ne (by decide)]
  rw [upE_ne (by decide)]
  rw [upE_eq (by decide)]
  rfl
theorem eF_9 {cA : Nat → ClassId} {bs : Nat} {sa : Nat → Nat} {E : Nat → va_E} : EF1 cA bs E 93 = ce cA (adF bs sa) I0 L0 (GRf 0) 9 := by
  unfold EF1 E_X11_init
  rw [upE_ne (by decide)]
  rw [E_X5_init_ne (by decide) (by decide)]
  rw [upE_ne (by decide)]
  rw [upE_ne (by decide)]
  rw [E_X2_init_ne (by decide) (by decide)]
  rw [upE_ne (by decide)]
  rw [upE_ne (by decide)]
  rw [upE_ne (by decide)]
  unfold E_X0_init
  rw [upE_ne (by decide)]
  rw [upE_eq (by decide)]
  rfl
theorem eF_10 {cA : Nat → ClassId} {bs : Nat} {sa : Nat → Nat} {E : Nat → va_E} : EF1 cA bs E 94 = ce cA (adF bs sa) I0 L0 (GRf 0) 10 := by
  unfold EF1 E_X11_init
  rw [upE_ne (by decide)]
  rw [E_X5_init_ne (by decide) (by decide)]
  rw [upE_ne (by decide)]
  rw [upE_ne (by decide)]
  unfold E_X2_init
  rw [upE_eq (by decide)]
  rfl
theorem eF_11 {cA : Nat → ClassId} {bs : Nat} {sa : Nat → Nat} {E : Nat → va_E} : EF1 cA bs E 95 = ce cA (adF bs sa) I0 L0 (GRf 0) 11 := by
  unfold EF1 E_X11_init
  rw [upE_ne (by decide)]
  rw [E_X5_init_ne (by decide) (by decide)]
  rw [upE_ne (by decide)]
  rw [upE_ne (by decide)]
  unfold E_X2_init
  rw [upE_ne (by decide)]
  rw [E_X5_init_ne (by decide) (by decide)]
  rw [upE_ne (by decide)]
  rw [upE_ne (by decide)]
  rw [E_X1_init_ne (by decide) (by decide)]
  rw [upE_ne (by decide)]
  rw [upE_ne (by decide)]
  rw [E_X6_init_ne (by decide) (by decide)]
  rw [upE_ne (by decide)]
  rw [upE_ne (by decide)]
  rw [E_X7_init_ne (by decide) (by decide)]
  rw [upE_ne (by decide)]
  rw [upE_ne (by decide)]
  rw [upE_ne (by decide)]
  rw [upE_eq (by decide)]
  rfl
theorem eF_12 {cA : Nat → ClassId} {bs : Nat} {sa : Nat → Nat} {E : Nat → va_E} : EF1 cA bs E 96 = ce cA (adF bs sa) I0 L0 (GRf 0) 12 := by
  unfold EF1 E_X11_init
  rw [upE_ne (by decide)]
  rw [E_X5_init_ne (by decide) (by decide)]
  rw [upE_ne (by decide)]
  rw [upE_ne (by decide)]
  unfold E_X2_init
  rw [upE_ne (by decide)]
  rw [E_X5_init_ne (by decide) (by decide)]
  rw [upE_ne (by decide)]
  rw [upE_ne (by decide)]
  rw [E_X1_init_ne (by decide) (by decide)]
  rw [upE_ne (by decide)]
  rw [upE_ne (by decide)]
  rw [E_X6_init_ne (by decide) (by decide)]
  rw [upE_ne (by decide)]
  rw [upE_ne (by decide)]
  unfold E_X7_init
  rw [upE_eq (by decide)]
  rfl
theorem eF_13 {cA : Nat → ClassId} {bs : Nat} {sa : Nat → Nat} {E : Nat → va_E} : EF1 cA bs E 97 = ce cA (adF bs sa) I0 L0 (GRf 0) 13 := by
  unfold EF1 E_X11_init
  rw [upE_ne (by decide)]
  rw [E_X5_init_ne (by decide) (by decide)]
  rw [upE_ne (by decide)]
  rw [upE_ne (by decide)]
  unfold E_X2_init
  rw [upE_ne (by decide)]
  rw [E_X5_init_ne (by decide) (by decide)]
  rw [upE_ne (by decide)]
  rw [upE_ne (by decide)]
  rw [E_X1_init_ne (by decide) (by decide)]
  rw [upE_ne (by decide)]
  rw [upE_ne (by decide)]
  rw [E_X6_init_ne (by decide) (by decide)]
  rw [upE_ne (by decide)]
  rw [upE_ne (by decide)]
  unfold E_X7_init
  rw [upE_ne (by decide)]
  rw [upE_ne (by decide)]
  rw [upE_ne (by decide)]
  rw [upE_ne (by decide)]
  rw [upE_ne (by decide)]
  rw [upE_ne (by decide)]
  rw [upE_eq (by decide)]
  rfl
theorem eF_14 {cA : Nat → ClassId} {bs : Nat} {sa : Nat → Nat} {E : Nat → va_E} : EF1 cA bs E 98 = ce cA (adF bs sa) I0 L0 (GRf 0) 14 := by
  unfold EF1 E_X11_init
  rw [upE_ne (by decide)]
  rw [E_X5_init_ne (by decide) (by decide)]
  rw [upE_ne (by decide)]
  rw [upE_ne (by decide)]
  unfold E_X2_init
  rw [upE_ne (by decide)]
  rw [E_X5_init_ne (by decide) (by decide)]
  rw [upE_ne (by decide)]
  rw [upE_ne (by decide)]
  rw [E_X1_init_ne (by decide) (by decide)]
  rw [upE_ne (by decide)]
  rw [upE_ne (by decide)]
  rw [E_X6_init_ne (by decide) (by decide)]
  rw [upE_ne (by decide)]
  rw [upE_ne (by decide)]
  unfold E_X7_init
  rw [upE_ne (by decide)]
  rw [upE_ne (by decide)]
  rw [upE_ne (by decide)]
  rw [upE_ne (by decide)]
  rw [upE_eq (by decide)]
  rfl
theorem eF_15 {cA : Nat → ClassId} {bs : Nat} {sa : Nat → Nat} {E : Nat → va_E} : EF1 cA bs E 99 = ce cA (adF bs sa) I0 L0 (GRf 0) 15 := by
  unfold EF1 E_X11_init
  rw [upE_ne (by decide)]
  rw [E_X5_init_ne (by decide) (by decide)]
  rw [upE_ne (by decide)]
  rw [upE_ne (by decide)]
  unfold E_X2_init
  rw [upE_ne (by decide)]
  rw [E_X5_init_ne (by decide) (by decide)]
  rw [upE_ne (by decide)]
  rw [upE_ne (by decide)]
  rw [E_X1_init_ne (by decide) (by decide)]
  rw [upE_ne (by decide)]
  rw [upE_ne (by decide)]
  rw [E_X6_init_ne (by decide) (by decide)]
  rw [upE_ne (by decide)]
  rw [upE_ne (by decide)]
  unfold E_X7_init
  rw [upE_ne (by decide)]
  rw [upE_ne (by decide)]
  rw [upE_eq (by decide)]
  rfl
theorem eF_16 {cA : Nat → ClassId} {bs : Nat} {sa : Nat → Nat} {E : Nat → va_E} : EF1 cA bs E 100 = ce cA (adF bs sa) I0 L0 (GRf 0) 16 := by
  unfold EF1 E_X11_init
  rw [upE_ne (by decide)]
  rw [E_X5_init_ne (by decide) (by decide)]
  rw [upE_ne (by decide)]
  rw [upE_ne (by decide)]
  unfold E_X2_init
  rw [upE_ne (by decide)]
  rw [E_X5_init_ne (by decide) (by decide)]
  rw [upE_ne (by decide)]
  rw [upE_ne (by decide)]
  rw [E_X1_init_ne (by decide) (by decide)]
  rw [upE_ne (by decide)]
  rw [upE_ne (by decide)]
  unfold E_X6_init
  rw [upE_eq (by decide)]
  rfl
theorem eF_17 {cA : Nat → ClassId} {bs : Nat} {sa : Nat → Nat} {E : Nat → va_E} : EF1 cA bs E 101 = ce cA (adF bs sa) I0 L0 (GRf 0) 17 := by
  unfold EF1 E_X11_init
  rw [upE_ne (by decide)]
  rw [E_X5_init_ne (by decide) (by decide)]
  rw [upE_ne (by decide)]
  rw [upE_ne (by decide)]
  unfold E_X2_init
  rw [upE_ne (by decide)]
  rw [E_X5_init_ne (by decide) (by decide)]
  rw [upE_ne (by decide)]
  rw [upE_ne (by decide)]
  rw [E_X1_init_ne (by decide) (by decide)]
  rw [upE_ne (by decide)]
  rw [upE_ne (by decide)]
  unfold E_X6_init
  rw [upE_ne (by decide)]
  rw [upE_ne (by decide)]
  rw [upE_eq (by decide)]
  rfl
theorem eF_18 {cA : Nat → ClassId} {bs : Nat} {sa : Nat → Nat} {E : Nat → va_E} : EF1 cA bs E 102 = ce cA (adF bs sa) I0 L0 (GRf 0) 18 := by
  unfold EF1 E_X11_init
  rw [upE_ne (by decide)]
  rw [E_X5_init_ne (by decide) (by decide)]
  rw [upE_ne (by decide)]
  rw [upE_ne (by decide)]
  unfold E_X2_init
  rw [upE_ne (by decide)]
  rw [E_X5_init_ne (by decide) (by decide)]
  rw [upE_ne (by decide)]
  rw [upE_ne (by decide)]
  unfold E_X1_init
  rw [upE_eq (by decide)]
  rfl
theorem eF_19 {cA : Nat → ClassId} {bs : Nat} {sa : Nat → Nat} {E : Nat → va_E} : EF1 cA bs E 103 = ce cA (adF bs sa) I0 L0 (GRf 0) 19 := by
  unfold EF1 E_X11_init
  rw [upE_ne (by decide)]
  rw [E_X5_init_ne (by decide) (by decide)]
  rw [upE_ne (by decide)]
  rw [upE_ne (by decide)]
  unfold E_X2_init
  rw [upE_ne (by decide)]
  rw [E_X5_init_ne (by decide) (by decide)]
  rw [upE_ne (by decide)]
  rw [upE_ne (by decide)]
  unfold E_X1_init
  rw [upE_ne (by decide)]
  rw [upE_eq (by decide)]
  rfl
theorem eF_20 {cA : Nat → ClassId} {bs : Nat} {sa : Nat → Nat} {E : Nat → va_E} : EF1 cA bs E 104 = ce cA (adF bs sa) I0 L0 (GRf 0) 20 := by
  unfold EF1 E_X11_init
  rw [upE_ne (by decide)]
  rw [E_X5_init_ne (by decide) (by decide)]
  rw [upE_ne (by decide)]
  rw [upE_ne (by decide)]
  unfold E_X2_init
  rw [upE_ne (by decide)]
  unfold E_X5_init
  rw [LpE_ne (by decide) (by decide)]
  unfold E0_X5_init
  rw [upE_eq (by decide)]
  rfl
theorem eF_21 {cA : Nat → ClassId} {bs : Nat} {sa : Nat → Nat} {E : Nat → va_E} : EF1 cA bs E 105 = ce cA (adF bs sa) I0 L0 (GRf 0) 21 := by
  unfold EF1 E_X11_init
  rw [upE_ne (by decide)]
  rw [E_X5_init_ne (by decide) (by decide)]
  rw [upE_ne (by decide)]
  rw [upE_ne (by decide)]
  unfold E_X2_init
  rw [upE_ne (by decide)]
  unfold E_X5_init
  rw [LpE_pa (by decide)]
  rw [ce_T (by decide)]
  have e9 : (fun y => if y < 30 then some (bs + (1 + 94 + 10 + 2 + y)) else none) = fun j => (GRf 0 21 j).map (adF bs sa) := by
    funext y
    by_cases h : y < 30
    · rw [if_pos h, show GRf 0 21 y = some (142 + y) by simp [GRf, h], Option.map_some]
      have e8 : adF bs sa (142 + y) = bs + (107 + y) := by
        unfold adF ordN
        rw [if_pos (by omega), if_neg (by omega), if_neg (by omega), if_neg (by omega), if_neg (by omega), if_neg (by omega), if_neg (by omega), if_neg (by omega), if_pos (by omega)]
        omega
      rw [e8]
    · rw [if_neg h, show GRf 0 21 y = none by simp [GRf, h]]
      rfl
  rw [e9]
  rfl
theorem eF_22 {cA : Nat → ClassId} {bs : Nat} {sa : Nat → Nat} {E : Nat → va_E} : EF1 cA bs E 137 = ce cA (adF bs sa) I0 L0 (GRf 0) 22 := by
  unfold EF1 E_X11_init
  rw [upE_ne (by decide)]
  unfold E_X5_init
  rw [LpE_ne (by decide) (by decide)]
  unfold E0_X5_init
  rw [upE_eq (by decide)]
  rfl
theorem eF_23 {cA : Nat → ClassId} {bs : Nat} {sa : Nat → Nat} {E : Nat → va_E} : EF1 cA bs E 138 = ce cA (adF bs sa) I0 L0 (GRf 0) 23 := by
  unfold EF1 E_X11_init
  rw [upE_ne (by decide)]
  unfold E_X5_init
  rw [LpE_pa (by decide)]
  rw [ce_T (by decide)]
  have e9 : (fun y => if y < 30 then some (bs + (1 + 137 + 2 + y)) else none) = fun j => (GRf 0 23 j).map (adF bs sa) := by
    funext y
    by_cases h : y < 30
    · rw [if_pos h, show GRf 0 23 y = some (173 + y) by simp [GRf, h], Option.map_some]
      have e8 : adF bs sa (173 + y) = bs + (140 + y) := by
        unfold adF ordN
        rw [if_pos (by omega), if_neg (by omega), if_neg (by omega), if_neg (by omega), if_neg (by omega), if_neg (by omega), if_neg (by omega), if_neg (by omega), if_neg (by omega), if_neg (by omega), if_pos (by omega)]
        omega
      rw [e8]
    · rw [if_neg h, show GRf 0 23 y = none by simp [GRf, h]]
      rfl
  rw [e9]
  rfl
theorem eF_58 {cA : Nat → ClassId} {bs : Nat} {sa : Nat → Nat} {E : Nat → va_E} : EF1 cA bs E 8 = ce cA (adF bs sa) I0 L0 (GRf 0) 58 := by
  unfold EF1 E_X11_init
  rw [upE_ne (by decide)]
  rw [E_X5_init_ne (by decide) (by decide)]
  rw [upE_ne (by decide)]
  rw [upE_ne (by decide)]
  rw [E_X2_init_ne (by decide) (by decide)]
  rw [upE_ne (by decide)]
  rw [upE_ne (by decide)]
  rw [upE_ne (by decide)]
  rw [E_X0_init_ne (by decide) (by decide)]
  rw [upE_ne (by decide)]
  rw [upE_ne (by decide)]
  rw [E_X8_init_ne (by decide) (by decide)]
  rw [upE_ne (by decide)]
  unfold E_X10_init
  unfold LyE
  rw [if_pos (by decide)]
  show uE cA bs 8 0 = _
  unfold uE E_X9_init
  rw [upE_eq (by decide)]
  rfl
theorem eF_59 {cA : Nat → ClassId} {bs : Nat} {sa : Nat → Nat} {E : Nat → va_E} : EF1 cA bs E 9 = ce cA (adF bs sa) I0 L0 (GRf 0) 59 := by
  unfold EF1 E_X11_init
  rw [upE_ne (by decide)]
  rw [E_X5_init_ne (by decide) (by decide)]
  rw [upE_ne (by decide)]
  rw [upE_ne (by decide)]
  rw [E_X2_init_ne (by decide) (by decide)]
  rw [upE_ne (by decide)]
  rw [upE_ne (by decide)]
  rw [upE_ne (by decide)]
  rw [E_X0_init_ne (by decide) (by decide)]
  rw [upE_ne (by decide)]
  rw [upE_ne (by decide)]
  rw [E_X8_init_ne (by decide) (by decide)]
  rw [upE_ne (by decide)]
  unfold E_X10_init
  unfold LyE
  rw [if_pos (by decide)]
  show uE cA bs 8 1 = _
  unfold uE E_X9_init
  rw [upE_ne (by decide)]
  rw [upE_ne (by decide)]
  rw [upE_ne (by decide)]
  rw [upE_ne (by decide)]
  rw [upE_ne (by decide)]
  rw [upE_eq (by decide)]
  rfl
theorem eF_60 {cA : Nat → ClassId} {bs : Nat} {sa : Nat → Nat} {E : Nat → va_E} : EF1 cA bs E 10 = ce cA (adF bs sa) I0 L0 (GRf 0) 60 := by
  unfold EF1 E_X11_init
  rw [upE_ne (by decide)]
  rw [E_X5_init_ne (by decide) (by decide)]
  rw [upE_ne (by decide)]
  rw [upE_ne (by decide)]
  rw [E_X2_init_ne (by decide) (by decide)]
  rw [upE_ne (by decide)]
  rw [upE_ne (by decide)]
  rw [upE_ne (by decide)]
  rw [E_X0_init_ne (by decide) (by decide)]
  rw [upE_ne (by decide)]
  rw [upE_ne (by decide)]
  rw [E_X8_init_ne (by decide) (by decide)]
  rw [upE_ne (by decide)]
  unfold E_X10_init
  unfold LyE
  rw [if_pos (by decide)]
  show uE cA bs 8 2 = _
  unfold uE E_X9_init
  rw [upE_ne (by decide)]
  rw [upE_ne (by decide)]
  rw [upE_ne (by decide)]
  rw [upE_eq (by decide)]
  rfl
theorem eF_61 {cA : Nat → ClassId} {bs : Nat} {sa : Nat → Nat} {E : Nat → va_E} : EF1 cA bs E 11 = ce cA (adF bs sa) I0 L0 (GRf 0) 61 := by
  unfold EF1 E_X11_init
  rw [upE_ne (by decide)]
  rw [E_X5_init_ne (by decide) (by decide)]
  rw [upE_ne (by decide)]
  rw [upE_ne (by decide)]
  rw [E_X2_init_ne (by decide) (by decide)]
  rw [upE_ne (by decide)]
  rw [upE_ne (by decide)]
  rw [upE_ne (by decide)]
  rw [E_X0_init_ne (by decide) (by decide)]
  rw [upE_ne (by decide)]
  rw [upE_ne (by decide)]
  rw [E_X8_init_ne (by decide) (by decide)]
  rw [upE_ne (by decide)]
  unfold E_X10_init
  unfold LyE
  rw [if_pos (by decide)]
  show uE cA bs 8 3 = _
  unfold uE E_X9_init
  rw [upE_ne (by decide)]
  rw [upE_eq (by decide)]
  rfl
theorem eF_62 {cA : Nat → ClassId} {bs : Nat} {sa : Nat → Nat} {E : Nat → va_E} : EF1 cA bs E 12 = ce cA (adF bs sa) I0 L0 (GRf 0) 62 := by
  unfold EF1 E_X11_init
  rw [upE_ne (by decide)]
  rw [E_X5_init_ne (by decide) (by decide)]
  rw [upE_ne (by decide)]
  rw [upE_ne (by decide)]
  rw [E_X2_init_ne (by decide) (by decide)]
  rw [upE_ne (by decide)]
  rw [upE_ne (by decide)]
  rw [upE_ne (by decide)]
  rw [E_X0_init_ne (by decide) (by decide)]
  rw [upE_ne (by decide)]
  rw [upE_ne (by decide)]
  rw [E_X8_init_ne (by decide) (by decide)]
  rw [upE_ne (by decide)]
  unfold E_X10_init
  unfold LyE
  rw [if_pos (by decide)]
  show uE cA bs 12 0 = _
  unfold uE E_X9_init
  rw [upE_eq (by decide)]
  rfl
theorem eF_63 {cA : Nat → ClassId} {bs : Nat} {sa : Nat → Nat} {E : Nat → va_E} : EF1 cA bs E 13 = ce cA (adF bs sa) I0 L0 (GRf 0) 63 := by
  unfold EF1 E_X11_init
  rw [upE_ne (by decide)]
  rw [E_X5_init_ne (by decide) (by decide)]
  rw [upE_ne (by decide)]
  rw [upE_ne (by decide)]
  rw [E_X2_init_ne (by decide) (by decide)]
  rw [upE_ne (by decide)]
  rw [upE_ne (by decide)]
  rw [upE_ne (by decide)]
  rw [E_X0_init_ne (by decide) (by decide)]
  rw [upE_ne (by decide)]
  rw [upE_ne (by decide)]
  rw [E_X8_init_ne (by decide) (by decide)]
  rw [upE_ne (by decide)]
  unfold E_X10_init
  unfold LyE
  rw [if_pos (by decide)]
  show uE cA bs 12 1 = _
  unfold uE E_X9_init
  rw [upE_ne (by decide)]
  rw [upE_ne (by decide)]
  rw [upE_ne (by decide)]
  rw [upE_ne (by decide)]
  rw [upE_ne (by decide)]
  rw [upE_eq (by decide)]
  rfl
theorem eF_64 {cA : Nat → ClassId} {bs : Nat} {sa : Nat → Nat} {E : Nat → va_E} : EF1 cA bs E 14 = ce cA (adF bs sa) I0 L0 (GRf 0) 64 := by
  unfold EF1 E_X11_init
  rw [upE_ne (by decide)]
  rw [E_X5_init_ne (by decide) (by decide)]
  rw [upE_ne (by decide)]
  rw [upE_ne (by decide)]
  rw [E_X2_init_ne (by decide) (by decide)]
  rw [upE_ne (by decide)]
  rw [upE_ne (by decide)]
  rw [upE_ne (by decide)]
  rw [E_X0_init_ne (by decide) (by decide)]
  rw [upE_ne (by decide)]
  rw [upE_ne (by decide)]
  rw [E_X8_init_ne (by decide) (by decide)]
  rw [upE_ne (by decide)]
  unfold E_X10_init
  unfold LyE
  rw [if_pos (by decide)]
  show uE cA bs 12 2 = _
  unfold uE E_X9_init
  rw [upE_ne (by decide)]
  rw [upE_ne (by decide)]
  rw [upE_ne (by decide)]
  rw [upE_eq (by decide)]
  rfl
theorem eF_65 {cA : Nat → ClassId} {bs : Nat} {sa : Nat → Nat} {E : Nat → va_E} : EF1 cA bs E 15 = ce cA (adF bs sa) I0 L0 (GRf 0) 65 := by
  unfold EF1 E_X11_init
  rw [upE_ne (by decide)]
  rw [E_X5_init_ne (by decide) (by decide)]
  rw [upE_ne (by decide)]
  rw [upE_ne (by decide)]
  rw [E_X2_init_ne (by decide) (by decide)]
  rw [upE_ne (by decide)]
  rw [upE_ne (by decide)]
  rw [upE_ne (by decide)]
  rw [E_X0_init_ne (by decide) (by decide)]
  rw [upE_ne (by decide)]
  rw [upE_ne (by decide)]
  rw [E_X8_init_ne (by decide) (by decide)]
  rw [upE_ne (by decide)]
  unfold E_X10_init
  unfold LyE
  rw [if_pos (by decide)]
  show uE cA bs 12 3 = _
  unfold uE E_X9_init
  rw [upE_ne (by decide)]
  rw [upE_eq (by decide)]
  rfl
theorem eF_66 {cA : Nat → ClassId} {bs : Nat} {sa : Nat → Nat} {E : Nat → va_E} : EF1 cA bs E 16 = ce cA (adF bs sa) I0 L0 (GRf 0) 66 := by
  unfold EF1 E_X11_init
  rw [upE_ne (by decide)]
  rw [E_X5_init_ne (by decide) (by decide)]
  rw [upE_ne (by decide)]
  rw [upE_ne (by decide)]
  rw [E_X2_init_ne (by decide) (by decide)]
  rw [upE_ne (by decide)]
  rw [upE_ne (by decide)]
  rw [upE_ne (by decide)]
  rw [E_X0_init_ne (by decide) (by decide)]
  rw [upE_ne (by decide)]
  rw [upE_ne (by decide)]
  rw [E_X8_init_ne (by decide) (by decide)]
  rw [upE_ne (by decide)]
  unfold E_X10_init
  unfold LyE
  rw [if_pos (by decide)]
  show uE cA bs 16 0 = _
  unfold uE E_X9_init
  rw [upE_eq (by decide)]
  rfl
theorem eF_67 {cA : Nat → ClassId} {bs : Nat} {sa : Nat → Nat} {E : Nat → va_E} : EF1 cA bs E 17 = ce cA (adF bs sa) I0 L0 (GRf 0) 67 := by
  unfold EF1 E_X11_init
  rw [upE_ne (by decide)]
  rw [E_X5_init_ne (by decide) (by decide)]
  rw [upE_ne (by decide)]
  rw [upE_ne (by decide)]
  rw [E_X2_init_ne (by decide) (by decide)]
  rw [upE_ne (by decide)]
  rw [upE_ne (by decide)]
  rw [upE_ne (by decide)]
  rw [E_X0_init_ne (by decide) (by decide)]
  rw [upE_ne (by decide)]
  rw [upE_ne (by decide)]
  rw [E_X8_init_ne (by decide) (by decide)]
  rw [upE_ne (by decide)]
  unfold E_X10_init
  unfold LyE
  rw [if_pos (by decide)]
  show uE cA bs 16 1 = _
  unfold uE E_X9_init
  rw [upE_ne (by decide)]
  rw [upE_ne (by decide)]
  rw [upE_ne (by decide)]
  rw [upE_ne (by decide)]
  rw [upE_ne (by decide)]
  rw [upE_eq (by decide)]
  rfl
theorem eF_68 {cA : Nat → ClassId} {bs : Nat} {sa : Nat → Nat} {E : Nat → va_E} : EF1 cA bs E 18 = ce cA (adF bs sa) I0 L0 (GRf 0) 68 := by
  unfold EF1 E_X11_init
  rw [upE_ne (by decide)]
  rw [E_X5_init_ne (by decide) (by decide)]
  rw [upE_ne (by decide)]
  rw [upE_ne (by decide)]
  rw [E_X2_init_ne (by decide) (by decide)]
  rw [upE_ne (by decide)]
  rw [upE_ne (by decide)]
  rw [upE_ne (by decide)]
  rw [E_X0_init_ne (by decide) (by decide)]
  rw [upE_ne (by decide)]
  rw [upE_ne (by decide)]
  rw [E_X8_init_ne (by decide) (by decide)]
  rw [upE_ne (by decide)]
  unfold E_X10_init
  unfold LyE
  rw [if_pos (by decide)]
  show uE cA bs 16 2 = _
  unfold uE E_X9_init
  rw [upE_ne (by decide)]
  rw [upE_ne (by decide)]
  rw [upE_ne (by decide)]
  rw [upE_eq (by decide)]
  rfl
theorem eF_69 {cA : Nat → ClassId} {bs : Nat} {sa : Nat → Nat} {E : Nat → va_E} : EF1 cA bs E 19 = ce cA (adF bs sa) I0 L0 (GRf 0) 69 := by
  unfold EF1 E_X11_init
  rw [upE_ne (by decide)]
  rw [E_X5_init_ne (by decide) (by decide)]
  rw [upE_ne (by decide)]
  rw [upE_ne (by decide)]
  rw [E_X2_init_ne (by decide) (by decide)]
  rw [upE_ne (by decide)]
  rw [upE_ne (by decide)]
  rw [upE_ne (by decide)]
  rw [E_X0_init_ne (by decide) (by decide)]
  rw [upE_ne (by decide)]
  rw [upE_ne (by decide)]
  rw [E_X8_init_ne (by decide) (by decide)]
  rw [upE_ne (by decide)]
  unfold E_X10_init
  unfold LyE
  rw [if_pos (by decide)]
  show uE cA bs 16 3 = _
  unfold uE E_X9_init
  rw [upE_ne (by decide)]
  rw [upE_eq (by decide)]
  rfl
theorem eF_70 {cA : Nat → ClassId} {bs : Nat} {sa : Nat → Nat} {E : Nat → va_E} : EF1 cA bs E 20 = ce cA (adF bs sa) I0 L0 (GRf 0) 70 := by
  unfold EF1 E_X11_init
  rw [upE_ne (by decide)]
  rw [E_X5_init_ne (by decide) (by decide)]
  rw [upE_ne (by decide)]
  rw [upE_ne (by decide)]
  rw [E_X2_init_ne (by decide) (by decide)]
  rw [upE_ne (by decide)]
  rw [upE_ne (by decide)]
  rw [upE_ne (by decide)]
  rw [E_X0_init_ne (by decide) (by decide)]
  rw [upE_ne (by decide)]
  rw [upE_ne (by decide)]
  rw [E_X8_init_ne (by decide) (by decide)]
  rw [upE_ne (by decide)]
  unfold E_X10_init
  unfold LyE
  rw [if_pos (by decide)]
  show uE cA bs 20 0 = _
  unfold uE E_X9_init
  rw [upE_eq (by decide)]
  rfl
theorem eF_71 {cA : Nat → ClassId} {bs : Nat} {sa : Nat → Nat} {E : Nat → va_E} : EF1 cA bs E 21 = ce cA (adF bs sa) I0 L0 (GRf 0) 71 := by
  unfold EF1 E_X11_init
  rw [upE_ne (by decide)]
  rw [E_X5_init_ne (by decide) (by decide)]
  rw [upE_ne (by decide)]
  rw [upE_ne (by decide)]
  rw [E_X2_init_ne (by decide) (by decide)]
  rw [upE_ne (by decide)]
  rw [upE_ne (by decide)]
  rw [upE_ne (by decide)]
  rw [E_X0_init_ne (by decide) (by decide)]
  rw [upE_ne (by decide)]
  rw [upE_ne (by decide)]
  rw [E_X8_init_ne (by decide) (by decide)]
  rw [upE_ne (by decide)]
  unfold E_X10_init
  unfold LyE
  rw [if_pos (by decide)]
  show uE cA bs 20 1 = _
  unfold uE E_X9_init
  rw [upE_ne (by decide)]
  rw [upE_ne (by decide)]
  rw [upE_ne (by decide)]
  rw [upE_ne (by decide)]
  rw [upE_ne (by decide)]
  rw [upE_eq (by decide)]
  rfl
theorem eF_72 {cA : Nat → ClassId} {bs : Nat} {sa : Nat → Nat} {E : Nat → va_E} : EF1 cA bs E 22 = ce cA (adF bs sa) I0 L0 (GRf 0) 72 := by
  unfold EF1 E_X11_init
  rw [upE_ne (by decide)]
  rw [E_X5_init_ne (by decide) (by decide)]
  rw [upE_ne (by decide)]
  rw [upE_ne (by decide)]
  rw [E_X2_init_ne (by decide) (by decide)]
  rw [upE_ne (by decide)]
  rw [upE_ne (by decide)]
  rw [upE_ne (by decide)]
  rw [E_X0_init_ne (by decide) (by decide)]
  rw [upE_ne (by decide)]
  rw [upE_ne (by decide)]
  rw [E_X8_init_ne (by decide) (by decide)]
  rw [upE_ne (by decide)]
  unfold E_X10_init
  unfold LyE
  rw [if_pos (by decide)]
  show uE cA bs 20 2 = _
  unfold uE E_X9_init
  rw [upE_ne (by decide)]
  rw [upE_ne (by decide)]
  rw [upE_ne (by decide)]
  rw [upE_eq (by decide)]
  rfl
theorem eF_73 {cA : Nat → ClassId} {bs : Nat} {sa : Nat → Nat} {E : Nat → va_E} : EF1 cA bs E 23 = ce cA (adF bs sa) I0 L0 (GRf 0) 73 := by
  unfold EF1 E_X11_init
  rw [upE_ne (by decide)]
  rw [E_X5_init_ne (by decide) (by decide)]
  rw [upE_ne (by decide)]
  rw [upE_ne (by decide)]
  rw [E_X2_init_ne (by decide) (by decide)]
  rw [upE_ne (by decide)]
  rw [upE_ne (by decide)]
  rw [upE_ne (by decide)]
  rw [E_X0_init_ne (by decide) (by decide)]
  rw [upE_ne (by decide)]
  rw [upE_ne (by decide)]
  rw [E_X8_init_ne (by decide) (by decide)]
  rw [upE_ne (by decide)]
  unfold E_X10_init
  unfold LyE
  rw [if_pos (by decide)]
  show uE cA bs 20 3 = _
  unfold uE E_X9_init
  rw [upE_ne (by decide)]
  rw [upE_eq (by decide)]
  rfl
theorem eF_74 {cA : Nat → ClassId} {bs : Nat} {sa : Nat → Nat} {E : Nat → va_E} : EF1 cA bs E 24 = ce cA (adF bs sa) I0 L0 (GRf 0) 74 := by
  unfold EF1 E_X11_init
  rw [upE_ne (by decide)]
  rw [E_X5_init_ne (by decide) (by decide)]
  rw [upE_ne (by decide)]
  rw [upE_ne (by decide)]
  rw [E_X2_init_ne (by decide) (by decide)]
  rw [upE_ne (by decide)]
  rw [upE_ne (by decide)]
  rw [upE_ne (by decide)]
  rw [E_X0_init_ne (by decide) (by decide)]
  rw [upE_ne (by decide)]
  rw [upE_ne (by decide)]
  rw [E_X8_init_ne (by decide) (by decide)]
  rw [upE_ne (by decide)]
  unfold E_X10_init
  unfold LyE
  rw [if_pos (by decide)]
  show uE cA bs 24 0 = _
  unfold uE E_X9_init
  rw [upE_eq (by decide)]
  rfl
theorem eF_75 {cA : Nat → ClassId} {bs : Nat} {sa : Nat → Nat} {E : Nat → va_E} : EF1 cA bs E 25 = ce cA (adF bs sa) I0 L0 (GRf 0) 75 := by
  unfold EF1 E_X11_init
  rw [upE_ne (by decide)]
  rw [E_X5_init_ne (by decide) (by decide)]
  rw [upE_ne (by decide)]
  rw [upE_ne (by decide)]
  rw [E_X2_init_ne (by decide) (by decide)]
  rw [upE_ne (by decide)]
  rw [upE_ne (by decide)]
  rw [upE_ne (by decide)]
  rw [E_X0_init_ne (by decide) (by decide)]
  rw [upE_ne (by decide)]
  rw [upE_ne (by decide)]
  rw [E_X8_init_ne (by decide) (by decide)]
  rw [upE_ne (by decide)]
  unfold E_X10_init
  unfold LyE
  rw [if_pos (by decide)]
  show uE cA bs 24 1 = _
  unfold uE E_X9_init
  rw [upE_ne (by decide)]
  rw [upE_ne (by decide)]
  rw [upE_ne (by decide)]
  rw [upE_ne (by decide)]
  rw [upE_ne (by decide)]
  rw [upE_eq (by decide)]
  rfl
theorem eF_76 {cA : Nat → ClassId} {bs : Nat} {sa : Nat → Nat} {E : Nat → va_E} : EF1 cA bs E 26 = ce cA (adF bs sa) I0 L0 (GRf 0) 76 := by
  unfold EF1 E_X11_init
  rw [upE_ne (by decide)]
  rw [E_X5_init_ne (by decide) (by decide)]
  rw [upE_ne (by decide)]
  rw [upE_ne (by decide)]
  rw [E_X2_init_ne (by decide) (by decide)]
  rw [upE_ne (by decide)]
  rw [upE_ne (by decide)]
  rw [upE_ne (by decide)]
  rw [E_X0_init_ne (by decide) (by decide)]
  rw [upE_ne (by decide)]
  rw [upE_ne (by decide)]
  rw [E_X8_init_ne (by decide) (by decide)]
  rw [upE_ne (by decide)]
  unfold E_X10_init
  unfold LyE
  rw [if_pos (by decide)]
  show uE cA bs 24 2 = _
  unfold uE E_X9_init
  rw [upE_ne (by decide)]
  rw [upE_ne (by decide)]
  rw [upE_ne (by decide)]
  rw [upE_eq (by decide)]
  rfl
theorem eF_77 {cA : Nat → ClassId} {bs : Nat} {sa : Nat → Nat} {E : Nat → va_E} : EF1 cA bs E 27 = ce cA (adF bs sa) I0 L0 (GRf 0) 77 := by
  unfold EF1 E_X11_init
  rw [upE_ne (by decide)]
  rw [E_X5_init_ne (by decide) (by decide)]
  rw [upE_ne (by decide)]
  rw [upE_ne (by decide)]
  rw [E_X2_init_ne (by decide) (by decide)]
  rw [upE_ne (by decide)]
  rw [upE_ne (by decide)]
  rw [upE_ne (by decide)]
  rw [E_X0_init_ne (by decide) (by decide)]
  rw [upE_ne (by decide)]
  rw [upE_ne (by decide)]
  rw [E_X8_init_ne (by decide) (by decide)]
  rw [upE_ne (by decide)]
  unfold E_X10_init
  unfold LyE
  rw [if_pos (by decide)]
  show uE cA bs 24 3 = _
  unfold uE E_X9_init
  rw [upE_ne (by decide)]
  rw [upE_eq (by decide)]
  rfl
theorem eF_78 {cA : Nat → ClassId} {bs : Nat} {sa : Nat → Nat} {E : Nat → va_E} : EF1 cA bs E 28 = ce cA (adF bs sa) I0 L0 (GRf 0) 78 := by
  unfold EF1 E_X11_init
  rw [upE_ne (by decide)]
  rw [E_X5_init_ne (by decide) (by decide)]
  rw [upE_ne (by decide)]
  rw [upE_ne (by decide)]
  rw [E_X2_init_ne (by decide) (by decide)]
  rw [upE_ne (by decide)]
  rw [upE_ne (by decide)]
  rw [upE_ne (by decide)]
  rw [E_X0_init_ne (by decide) (by decide)]
  rw [upE_ne (by decide)]
  rw [upE_ne (by decide)]
  rw [E_X8_init_ne (by decide) (by decide)]
  rw [upE_ne (by decide)]
  unfold E_X10_init
  unfold LyE
  rw [if_pos (by decide)]
  show uE cA bs 28 0 = _
  unfold uE E_X9_init
  rw [upE_eq (by decide)]
  rfl
theorem eF_79 {cA : Nat → ClassId} {bs : Nat} {sa : Nat → Nat} {E : Nat → va_E} : EF1 cA bs E 29 = ce cA (adF bs sa) I0 L0 (GRf 0) 79 := by
  unfold EF1 E_X11_init
  rw [upE_ne (by decide)]
  rw [E_X5_init_ne (by decide) (by decide)]
  rw [upE_ne (by decide)]
  rw [upE_ne (by decide)]
  rw [E_X2_init_ne (by decide) (by decide)]
  rw [upE_ne (by decide)]
  rw [upE_ne (by decide)]
  rw [upE_ne (by decide)]
  rw [E_X0_init_ne (by decide) (by decide)]
  rw [upE_ne (by decide)]
  rw [upE_ne (by decide)]
  rw [E_X8_init_ne (by decide) (by decide)]
  rw [upE_ne (by decide)]
  unfold E_X10_init
  unfold LyE
  rw [if_pos (by decide)]
  show uE cA bs 28 1 = _
  unfold uE E_X9_init
  rw [upE_ne (by decide)]
  rw [upE_ne (by decide)]
  rw [upE_ne (by decide)]
  rw [upE_ne (by decide)]
  rw [upE_ne (by decide)]
  rw [upE_eq (by decide)]
  rfl
theorem eF_80 {cA : Nat → ClassId} {bs : Nat} {sa : Nat → Nat} {E : Nat → va_E} : EF1 cA bs E 30 = ce cA (adF bs sa) I0 L0 (GRf 0) 80 := by
  unfold EF1 E_X11_init
  rw [upE_ne (by decide)]
  rw [E_X5_init_ne (by decide) (by decide)]
  rw [upE_ne (by decide)]
  rw [upE_ne (by decide)]
  rw [E_X2_init_ne (by decide) (by decide)]
  rw [upE_ne (by decide)]
  rw [upE_ne (by decide)]
  rw [upE_ne (by decide)]
  rw [E_X0_init_ne (by decide) (by decide)]
  rw [upE_ne (by decide)]
  rw [upE_ne (by decide)]
  rw [E_X8_init_ne (by decide) (by decide)]
  rw [upE_ne (by decide)]
  unfold E_X10_init
  unfold LyE
  rw [if_pos (by decide)]
  show uE cA bs 28 2 = _
  unfold uE E_X9_init
  rw [upE_ne (by decide)]
  rw [upE_ne (by decide)]
  rw [upE_ne (by decide)]
  rw [upE_eq (by decide)]
  rfl
theorem eF_81 {cA : Nat → ClassId} {bs : Nat} {sa : Nat → Nat} {E : Nat → va_E} : EF1 cA bs E 31 = ce cA (adF bs sa) I0 L0 (GRf 0) 81 := by
  unfold EF1 E_X11_init
  rw [upE_ne (by decide)]
  rw [E_X5_init_ne (by decide) (by decide)]
  rw [upE_ne (by decide)]
  rw [upE_ne (by decide)]
  rw [E_X2_init_ne (by decide) (by decide)]
  rw [upE_ne (by decide)]
  rw [upE_ne (by decide)]
  rw [upE_ne (by decide)]
  rw [E_X0_init_ne (by decide) (by decide)]
  rw [upE_ne (by decide)]
  rw [upE_ne (by decide)]
  rw [E_X8_init_ne (by decide) (by decide)]
  rw [upE_ne (by decide)]
  unfold E_X10_init
  unfold LyE
  rw [if_pos (by decide)]
  show uE cA bs 28 3 = _
  unfold uE E_X9_init
  rw [upE_ne (by decide)]
  rw [upE_eq (by decide)]
  rfl
theorem eF_82 {cA : Nat → ClassId} {bs : Nat} {sa : Nat → Nat} {E : Nat → va_E} : EF1 cA bs E 32 = ce cA (adF bs sa) I0 L0 (GRf 0) 82 := by
  unfold EF1 E_X11_init
  rw [upE_ne (by decide)]
  rw [E_X5_init_ne (by decide) (by decide)]
  rw [upE_ne (by decide)]
  rw [upE_ne (by decide)]
  rw [E_X2_init_ne (by decide) (by decide)]
  rw [upE_ne (by decide)]
  rw [upE_ne (by decide)]
  rw [upE_ne (by decide)]
  rw [E_X0_init_ne (by decide) (by decide)]
  rw [upE_ne (by decide)]
  rw [upE_ne (by decide)]
  rw [E_X8_init_ne (by decide) (by decide)]
  rw [upE_ne (by decide)]
  unfold E_X10_init
  unfold LyE
  rw [if_pos (by decide)]
  show uE cA bs 32 0 = _
  unfold uE E_X9_init
  rw [upE_eq (by decide)]
  rfl
theorem eF_83 {cA : Nat → ClassId} {bs : Nat} {sa : Nat → Nat} {E : Nat → va_E} : EF1 cA bs E 33 = ce cA (adF bs sa) I0 L0 (GRf 0) 83 := by
  unfold EF1 E_X11_init
  rw [upE_ne (by decide)]
  rw [E_X5_init_ne (by decide) (by decide)]
  rw [upE_ne (by decide)]
  rw [upE_ne (by decide)]
  rw [E_X2_init_ne (by decide) (by decide)]
  rw [upE_ne (by decide)]
  rw [upE_ne (by decide)]
  rw [upE_ne (by decide)]
  rw [E_X0_init_ne (by decide) (by decide)]
  rw [upE_ne (by decide)]
  rw [upE_ne (by decide)]
  rw [E_X8_init_ne (by decide) (by decide)]
  rw [upE_ne (by decide)]
  unfold E_X10_init
  unfold LyE
  rw [if_pos (by decide)]
  show uE cA bs 32 1 = _
  unfold uE E_X9_init
  rw [upE_ne (by decide)]
  rw [upE_ne (by decide)]
  rw [upE_ne (by decide)]
  rw [upE_ne (by decide)]
  rw [upE_ne (by decide)]
  rw [upE_eq (by decide)]
  rfl
theorem eF_84 {cA : Nat → ClassId} {bs : Nat} {sa : Nat → Nat} {E : Nat → va_E} : EF1 cA bs E 34 = ce cA (adF bs sa) I0 L0 (GRf 0) 84 := by
  unfold EF1 E_X11_init
  rw [upE_ne (by decide)]
  rw [E_X5_init_ne (by decide) (by decide)]
  rw [upE_ne (by decide)]
  rw [upE_ne (by decide)]
  rw [E_X2_init_ne (by decide) (by decide)]
  rw [upE_ne (by decide)]
  rw [upE_ne (by decide)]
  rw [upE_ne (by decide)]
  rw [E_X0_init_ne (by decide) (by decide)]
  rw [upE_ne (by decide)]
  rw [upE_ne (by decide)]
  rw [E_X8_init_ne (by decide) (by decide)]
  rw [upE_ne (by decide)]
  unfold E_X10_init
  unfold LyE
  rw [if_pos (by decide)]
  show uE cA bs 32 2 = _
  unfold uE E_X9_init
  rw [upE_ne (by decide)]
  rw [upE_ne (by decide)]
  rw [upE_ne (by decide)]
  rw [upE_eq (by decide)]
  rfl
theorem eF_85 {cA : Nat → ClassId} {bs : Nat} {sa : Nat → Nat} {E : Nat → va_E} : EF1 cA bs E 35 = ce cA (adF bs sa) I0 L0 (GRf 0) 85 := by
  unfold EF1 E_X11_init
  rw [upE_ne (by decide)]
  rw [E_X5_init_ne (by decide) (by decide)]
  rw [upE_ne (by decide)]
  rw [upE_ne (by decide)]
  rw [E_X2_init_ne (by decide) (by decide)]
  rw [upE_ne (by decide)]
  rw [upE_ne (by decide)]
  rw [upE_ne (by decide)]
  rw [E_X0_init_ne (by decide) (by decide)]
  rw [upE_ne (by decide)]
  rw [upE_ne (by decide)]
  rw [E_X8_init_ne (by decide) (by decide)]
  rw [upE_ne (by decide)]
  unfold E_X10_init
  unfold LyE
  rw [if_pos (by decide)]
  show uE cA bs 32 3 = _
  unfold uE E_X9_init
  rw [upE_ne (by decide)]
  rw [upE_eq (by decide)]
  rfl
theorem eF_86 {cA : Nat → ClassId} {bs : Nat} {sa : Nat → Nat} {E : Nat → va_E} : EF1 cA bs E 36 = ce cA (adF bs sa) I0 L0 (GRf 0) 86 := by
  unfold EF1 E_X11_init
  rw [upE_ne (by decide)]
  rw [E_X5_init_ne (by decide) (by decide)]
  rw [upE_ne (by decide)]
  rw [upE_ne (by decide)]
  rw [E_X2_init_ne (by decide) (by decide)]
  rw [upE_ne (by decide)]
  rw [upE_ne (by decide)]
  rw [upE_ne (by decide)]
  rw [E_X0_init_ne (by decide) (by decide)]
  rw [upE_ne (by decide)]
  rw [upE_ne (by decide)]
  rw [E_X8_init_ne (by decide) (by decide)]
  rw [upE_ne (by decide)]
  unfold E_X10_init
  unfold LyE
  rw [if_pos (by decide)]
  show uE cA bs 36 0 = _
  unfold uE E_X9_init
  rw [upE_eq (by decide)]
  rfl
theorem eF_87 {cA : Nat → ClassId} {bs : Nat} {sa : Nat → Nat} {E : Nat → va_E} : EF1 cA bs E 37 = ce cA (adF bs sa) I0 L0 (GRf 0) 87 := by
  unfold EF1 E_X11_init
  rw [upE_ne (by decide)]
  rw [E_X5_init_ne (by decide) (by decide)]
  rw [upE_ne (by decide)]
  rw [upE_ne (by decide)]
  rw [E_X2_init_ne (by decide) (by decide)]
  rw [upE_ne (by decide)]
  rw [upE_ne (by decide)]
  rw [upE_ne (by decide)]
  rw [E_X0_init_ne (by decide) (by decide)]
  rw [upE_ne (by decide)]
  rw [upE_ne (by decide)]
  rw [E_X8_init_ne (by decide) (by decide)]
  rw [upE_ne (by decide)]
  unfold E_X10_init
  unfold LyE
  rw [if_pos (by decide)]
  show uE cA bs 36 1 = _
  unfold uE E_X9_init
  rw [upE_ne (by decide)]
  rw [upE_ne (by decide)]
  rw [upE_ne (by decide)]
  rw [upE_ne (by decide)]
  rw [upE_ne (by decide)]
  rw [upE_eq (by decide)]
  rfl
theorem eF_88 {cA : Nat → ClassId} {bs : Nat} {sa : Nat → Nat} {E : Nat → va_E} : EF1 cA bs E 38 = ce cA (adF bs sa) I0 L0 (GRf 0) 88 := by
  unfold EF1 E_X11_init
  rw [upE_ne (by decide)]
  rw [E_X5_init_ne (by decide) (by decide)]
  rw [upE_ne (by decide)]
  rw [upE_ne (by decide)]
  rw [E_X2_init_ne (by decide) (by decide)]
  rw [upE_ne (by decide)]
  rw [upE_ne (by decide)]
  rw [upE_ne (by decide)]
  rw [E_X0_init_ne (by decide) (by decide)]
  rw [upE_ne (by decide)]
  rw [upE_ne (by decide)]
  rw [E_X8_init_ne (by decide) (by decide)]
  rw [upE_ne (by decide)]
  unfold E_X10_init
  unfold LyE
  rw [if_pos (by decide)]
  show uE cA bs 36 2 = _
  unfold uE E_X9_init
  rw [upE_ne (by decide)]
  rw [upE_ne (by decide)]
  rw [upE_ne (by decide)]
  rw [upE_eq (by decide)]
  rfl
theorem eF_89 {cA : Nat → ClassId} {bs : Nat} {sa : Nat → Nat} {E : Nat → va_E} : EF1 cA bs E 39 = ce cA (adF bs sa) I0 L0 (GRf 0) 89 := by
  unfold EF1 E_X11_init
  rw [upE_ne (by decide)]
  rw [E_X5_init_ne (by decide) (by decide)]
  rw [upE_ne (by decide)]
  rw [upE_ne (by decide)]
  rw [E_X2_init_ne (by decide) (by decide)]
  rw [upE_ne (by decide)]
  rw [upE_ne (by decide)]
  rw [upE_ne (by decide)]
  rw [E_X0_init_ne (by decide) (by decide)]
  rw [upE_ne (by decide)]
  rw [upE_ne (by decide)]
  rw [E_X8_init_ne (by decide) (by decide)]
  rw [upE_ne (by decide)]
  unfold E_X10_init
  unfold LyE
  rw [if_pos (by decide)]
  show uE cA bs 36 3 = _
  unfold uE E_X9_init
  rw [upE_ne (by decide)]
  rw [upE_eq (by decide)]
  rfl
theorem eF_90 {cA : Nat → ClassId} {bs : Nat} {sa : Nat → Nat} {E : Nat → va_E} : EF1 cA bs E 40 = ce cA (adF bs sa) I0 L0 (GRf 0) 90 := by
  unfold EF1 E_X11_init
  rw [upE_ne (by decide)]
  rw [E_X5_init_ne (by decide) (by decide)]
  rw [upE_ne (by decide)]
  rw [upE_ne (by decide)]
  rw [E_X2_init_ne (by decide) (by decide)]
  rw [upE_ne (by decide)]
  rw [upE_ne (by decide)]
  rw [upE_ne (by decide)]
  rw [E_X0_init_ne (by decide) (by decide)]
  rw [upE_ne (by decide)]
  rw [upE_ne (by decide)]
  rw [E_X8_init_ne (by decide) (by decide)]
  rw [upE_ne (by decide)]
  unfold E_X10_init
  unfold LyE
  rw [if_pos (by decide)]
  show uE cA bs 40 0 = _
  unfold uE E_X9_init
  rw [upE_eq (by decide)]
  rfl
theorem eF_91 {cA : Nat → ClassId} {bs : Nat} {sa : Nat → Nat} {E : Nat → va_E} : EF1 cA bs E 41 = ce cA (adF bs sa) I0 L0 (GRf 0) 91 := by
  unfold EF1 E_X11_init
  rw [upE_ne (by decide)]
  rw [E_X5_init_ne (by decide) (by decide)]
  rw [upE_ne (by decide)]
  rw [upE_ne (by decide)]
  rw [E_X2_init_ne (by decide) (by decide)]
  rw [upE_ne (by decide)]
  rw [upE_ne (by decide)]
  rw [upE_ne (by decide)]
  rw [E_X0_init_ne (by decide) (by decide)]
  rw [upE_ne (by decide)]
  rw [upE_ne (by decide)]
  rw [E_X8_init_ne (by decide) (by decide)]
  rw [upE_ne (by decide)]
  unfold E_X10_init
  unfold LyE
  rw [if_pos (by decide)]
  show uE cA bs 40 1 = _
  unfold uE E_X9_init
  rw [upE_ne (by decide)]
  rw [upE_ne (by decide)]
  rw [upE_ne (by decide)]
  rw [upE_ne (by decide)]
  rw [upE_ne (by decide)]
  rw [upE_eq (by decide)]
  rfl
theorem eF_92 {cA : Nat → ClassId} {bs : Nat} {sa : Nat → Nat} {E : Nat → va_E} : EF1 cA bs E 42 = ce cA (adF bs sa) I0 L0 (GRf 0) 92 := by
  unfold EF1 E_X11_init
  rw [upE_ne (by decide)]
  rw [E_X5_init_ne (by decide) (by decide)]
  rw [upE_ne (by decide)]
  rw [upE_ne (by decide)]
  rw [E_X2_init_ne (by decide) (by decide)]
  rw [upE_ne (by decide)]
  rw [upE_ne (by decide)]
  rw [upE_ne (by decide)]
  rw [E_X0_init_ne (by decide) (by decide)]
  rw [upE_ne (by decide)]
  rw [upE_ne (by decide)]
  rw [E_X8_init_ne (by decide) (by decide)]
  rw [upE_ne (by decide)]
  unfold E_X10_init
  unfold LyE
  rw [if_pos (by decide)]
  show uE cA bs 40 2 = _
  unfold uE E_X9_init
  rw [upE_ne (by decide)]
  rw [upE_ne (by decide)]
  rw [upE_ne (by decide)]
  rw [upE_eq (by decide)]
  rfl
theorem eF_93 {cA : Nat → ClassId} {bs : Nat} {sa : Nat → Nat} {E : Nat → va_E} : EF1 cA bs E 43 = ce cA (adF bs sa) I0 L0 (GRf 0) 93 := by
  unfold EF1 E_X11_init
  rw [upE_ne (by decide)]
  rw [E_X5_init_ne (by decide) (by decide)]
  rw [upE_ne (by decide)]
  rw [upE_ne (by decide)]
  rw [E_X2_init_ne (by decide) (by decide)]
  rw [upE_ne (by decide)]
  rw [upE_ne (by decide)]
  rw [upE_ne (by decide)]
  rw [E_X0_init_ne (by decide) (by decide)]
  rw [upE_ne (by decide)]
  rw [upE_ne (by decide)]
  rw [E_X8_init_ne (by decide) (by decide)]
  rw [upE_ne (by decide)]
  unfold E_X10_init
  unfold LyE
  rw [if_pos (by decide)]
  show uE cA bs 40 3 = _
  unfold uE E_X9_init
  rw [upE_ne (by decide)]
  rw [upE_eq (by decide)]
  rfl
theorem eF_94 {cA : Nat → ClassId} {bs : Nat} {sa : Nat → Nat} {E : Nat → va_E} : EF1 cA bs E 44 = ce cA (adF bs sa) I0 L0 (GRf 0) 94 := by
  unfold EF1 E_X11_init
  rw [upE_ne (by decide)]
  rw [E_X5_init_ne (by decide) (by decide)]
  rw [upE_ne (by decide)]
  rw [upE_ne (by decide)]
  rw [E_X2_init_ne (by decide) (by decide)]
  rw [upE_ne (by decide)]
  rw [upE_ne (by decide)]
  rw [upE_ne (by decide)]
  rw [E_X0_init_ne (by decide) (by decide)]
  rw [upE_ne (by decide)]
  rw [upE_ne (by decide)]
  rw [E_X8_init_ne (by decide) (by decide)]
  rw [upE_ne (by decide)]
  unfold E_X10_init
  unfold LyE
  rw [if_pos (by decide)]
  show uE cA bs 44 0 = _
  unfold uE E_X9_init
  rw [upE_eq (by decide)]
  rfl
theorem eF_95 {cA : Nat → ClassId} {bs : Nat} {sa : Nat → Nat} {E : Nat → va_E} : EF1 cA bs E 45 = ce cA (adF bs sa) I0 L0 (GRf 0) 95 := by
  unfold EF1 E_X11_init
  rw [upE_ne (by decide)]
  rw [E_X5_init_ne (by decide) (by decide)]
  rw [upE_ne (by decide)]
  rw [upE_ne (by decide)]
  rw [E_X2_init_ne (by decide) (by decide)]
  rw [upE_ne (by decide)]
  rw [upE_ne (by decide)]
  rw [upE_ne (by decide)]
  rw [E_X0_init_ne (by decide) (by decide)]
  rw [upE_ne (by decide)]
  rw [upE_ne (by decide)]
  rw [E_X8_init_ne (by decide) (by decide)]
  rw [upE_ne (by decide)]
  unfold E_X10_init
  unfold LyE
  rw [if_pos (by decide)]
  show uE cA bs 44 1 = _
  unfold uE E_X9_init
  rw [upE_ne (by decide)]
  rw [upE_ne (by decide)]
  rw [upE_ne (by decide)]
  rw [upE_ne (by decide)]
  rw [upE_ne (by decide)]
  rw [upE_eq (by decide)]
  rfl
theorem eF_96 {cA : Nat → ClassId} {bs : Nat} {sa : Nat → Nat} {E : Nat → va_E} : EF1 cA bs E 46 = ce cA (adF bs sa) I0 L0 (GRf 0) 96 := by
  unfold EF1 E_X11_init
  rw [upE_ne (by decide)]
  rw [E_X5_init_ne (by decide) (by decide)]
  rw [upE_ne (by decide)]
  rw [upE_ne (by decide)]
  rw [E_X2_init_ne (by decide) (by decide)]
  rw [upE_ne (by decide)]
  rw [upE_ne (by decide)]
  rw [upE_ne (by decide)]
  rw [E_X0_init_ne (by decide) (by decide)]
  rw [upE_ne (by decide)]
  rw [upE_ne (by decide)]
  rw [E_X8_init_ne (by decide) (by decide)]
  rw [upE_ne (by decide)]
  unfold E_X10_init
  unfold LyE
  rw [if_pos (by decide)]
  show uE cA bs 44 2 = _
  unfold uE E_X9_init
  rw [upE_ne (by decide)]
  rw [upE_ne (by decide)]
  rw [upE_ne (by decide)]
  rw [upE_eq (by decide)]
  rfl
theorem eF_97 {cA : Nat → ClassId} {bs : Nat} {sa : Nat → Nat} {E : Nat → va_E} : EF1 cA bs E 47 = ce cA (adF bs sa) I0 L0 (GRf 0) 97 := by
  unfold EF1 E_X11_init
  rw [upE_ne (by decide)]
  rw [E_X5_init_ne (by decide) (by decide)]
  rw [upE_ne (by decide)]
  rw [upE_ne (by decide)]
  rw [E_X2_init_ne (by decide) (by decide)]
  rw [upE_ne (by decide)]
  rw [upE_ne (by decide)]
  rw [upE_ne (by decide)]
  rw [E_X0_init_ne (by decide) (by decide)]
  rw [upE_ne (by decide)]
  rw [upE_ne (by decide)]
  rw [E_X8_init_ne (by decide) (by decide)]
  rw [upE_ne (by decide)]
  unfold E_X10_init
  unfold LyE
  rw [if_pos (by decide)]
  show uE cA bs 44 3 = _
  unfold uE E_X9_init
  rw [upE_ne (by decide)]
  rw [upE_eq (by decide)]
  rfl
theorem eF_98 {cA : Nat → ClassId} {bs : Nat} {sa : Nat → Nat} {E : Nat → va_E} : EF1 cA bs E 48 = ce cA (adF bs sa) I0 L0 (GRf 0) 98 := by
  unfold EF1 E_X11_init
  rw [upE_ne (by decide)]
  rw [E_X5_init_ne (by decide) (by decide)]
  rw [upE_ne (by decide)]
  rw [upE_ne (by decide)]
  rw [E_X2_init_ne (by decide) (by decide)]
  rw [upE_ne (by decide)]
  rw [upE_ne (by decide)]
  rw [upE_ne (by decide)]
  rw [E_X0_init_ne (by decide) (by decide)]
  rw [upE_ne (by decide)]
  rw [upE_ne (by decide)]
  rw [E_X8_init_ne (by decide) (by decide)]
  rw [upE_ne (by decide)]
  unfold E_X10_init
  unfold LyE
  rw [if_pos (by decide)]
  show uE cA bs 48 0 = _
  unfold uE E_X9_init
  rw [upE_eq (by decide)]
  rfl
theorem eF_99 {cA : Nat → ClassId} {bs : Nat} {sa : Nat → Nat} {E : Nat → va_E} : EF1 cA bs E 49 = ce cA (adF bs sa) I0 L0 (GRf 0) 99 := by
  unfold EF1 E_X11_init
  rw [upE_ne (by decide)]
  rw [E_X5_init_ne (by decide) (by decide)]
  rw [upE_ne (by decide)]
  rw [upE_ne (by decide)]
  rw [E_X2_init_ne (by decide) (by decide)]
  rw [upE_ne (by decide)]
  rw [upE_ne (by decide)]
  rw [upE_ne (by decide)]
  rw [E_X0_init_ne (by decide) (by decide)]
  rw [upE_ne (by decide)]
  rw [upE_ne (by decide)]
  rw [E_X8_init_ne (by decide) (by decide)]
  rw [upE_ne (by decide)]
  unfold E_X10_init
  unfold LyE
  rw [if_pos (by decide)]
  show uE cA bs 48 1 = _
  unfold uE E_X9_init
  rw [upE_ne (by decide)]
  rw [upE_ne (by decide)]
  rw [upE_ne (by decide)]
  rw [upE_ne (by decide)]
  rw [upE_ne (by decide)]
  rw [upE_eq (by decide)]
  rfl
theorem eF_100 {cA : Nat → ClassId} {bs : Nat} {sa : Nat → Nat} {E : Nat → va_E} : EF1 cA bs E 50 = ce cA (adF bs sa) I0 L0 (GRf 0) 100 := by
  unfold EF1 E_X11_init
  rw [upE_ne (by decide)]
  rw [E_X5_init_ne (by decide) (by decide)]
  rw [upE_ne (by decide)]
  rw [upE_ne (by decide)]
  rw [E_X2_init_ne (by decide) (by decide)]
  rw [upE_ne (by decide)]
  rw [upE_ne (by decide)]
  rw [upE_ne (by decide)]
  rw [E_X0_init_ne (by decide) (by decide)]
  rw [upE_ne (by decide)]
  rw [upE_ne (by decide)]
  rw [E_X8_init_ne (by decide) (by decide)]
  rw [upE_ne (by decide)]
  unfold E_X10_init
  unfold LyE
  rw [if_pos (by decide)]
  show uE cA bs 48 2 = _
  unfold uE E_X9_init
  rw [upE_ne (by decide)]
  rw [upE_ne (by decide)]
  rw [upE_ne (by decide)]
  rw [upE_eq (by decide)]
  rfl
theorem eF_101 {cA : Nat → ClassId} {bs : Nat} {sa : Nat → Nat} {E : Nat → va_E} : EF1 cA bs E 51 = ce cA (adF bs sa) I0 L0 (GRf 0) 101 := by
  unfold EF1 E_X11_init
  rw [upE_ne (by decide)]
  rw [E_X5_init_ne (by decide) (by decide)]
  rw [upE_ne (by decide)]
  rw [upE_ne (by decide)]
  rw [E_X2_init_ne (by decide) (by decide)]
  rw [upE_ne (by decide)]
  rw [upE_ne (by decide)]
  rw [upE_ne (by decide)]
  rw [E_X0_init_ne (by decide) (by decide)]
  rw [upE_ne (by decide)]
  rw [upE_ne (by decide)]
  rw [E_X8_init_ne (by decide) (by decide)]
  rw [upE_ne (by decide)]
  unfold E_X10_init
  unfold LyE
  rw [if_pos (by decide)]
  show uE cA bs 48 3 = _
  unfold uE E_X9_init
  rw [upE_ne (by decide)]
  rw [upE_eq (by decide)]
  rfl
theorem eF_102 {cA : Nat → ClassId} {bs : Nat} {sa : Nat → Nat} {E : Nat → va_E} : EF1 cA bs E 52 = ce cA (adF bs sa) I0 L0 (GRf 0) 102 := by
  unfold EF1 E_X11_init
  rw [upE_ne (by decide)]
  rw [E_X5_init_ne (by decide) (by decide)]
  rw [upE_ne (by decide)]
  rw [upE_ne (by decide)]
  rw [E_X2_init_ne (by decide) (by decide)]
  rw [upE_ne (by decide)]
  rw [upE_ne (by decide)]
  rw [upE_ne (by decide)]
  rw [E_X0_init_ne (by decide) (by decide)]
  rw [upE_ne (by decide)]
  rw [upE_ne (by decide)]
  rw [E_X8_init_ne (by decide) (by decide)]
  rw [upE_ne (by decide)]
  unfold E_X10_init
  unfold LyE
  rw [if_pos (by decide)]
  show uE cA bs 52 0 = _
  unfold uE E_X9_init
  rw [upE_eq (by decide)]
  rfl
theorem eF_103 {cA : Nat → ClassId} {bs : Nat} {sa : Nat → Nat} {E : Nat → va_E} : EF1 cA bs E 53 = ce cA (adF bs sa) I0 L0 (GRf 0) 103 := by
  unfold EF1 E_X11_init
  rw [upE_ne (by decide)]
  rw [E_X5_init_ne (by decide) (by decide)]
  rw [upE_ne (by decide)]
  rw [upE_ne (by decide)]
  rw [E_X2_init_ne (by decide) (by decide)]
  rw [upE_ne (by decide)]
  rw [upE_ne (by decide)]
  rw [upE_ne (by decide)]
  rw [E_X0_init_ne (by decide) (by decide)]
  rw [upE_ne (by decide)]
  rw [upE_ne (by decide)]
  rw [E_X8_init_ne (by decide) (by decide)]
  rw [upE_ne (by decide)]
  unfold E_X10_init
  unfold LyE
  rw [if_pos (by decide)]
  show uE cA bs 52 1 = _
  unfold uE E_X9_init
  rw [upE_ne (by decide)]
  rw [upE_ne (by decide)]
  rw [upE_ne (by decide)]
  rw [upE_ne (by decide)]
  rw [upE_ne (by decide)]
  rw [upE_eq (by decide)]
  rfl
theorem eF_104 {cA : Nat → ClassId} {bs : Nat} {sa : Nat → Nat} {E : Nat → va_E} : EF1 cA bs E 54 = ce cA (adF bs sa) I0 L0 (GRf 0) 104 := by
  unfold EF1 E_X11_init
  rw [upE_ne (by decide)]
  rw [E_X5_init_ne (by decide) (by decide)]
  rw [upE_ne (by decide)]
  rw [upE_ne (by decide)]
  rw [E_X2_init_ne (by decide) (by decide)]
  rw [upE_ne (by decide)]
  rw [upE_ne (by decide)]
  rw [upE_ne (by decide)]
  rw [E_X0_init_ne (by decide) (by decide)]
  rw [upE_ne (by decide)]
  rw [upE_ne (by decide)]
  rw [E_X8_init_ne (by decide) (by decide)]
  rw [upE_ne (by decide)]
  unfold E_X10_init
  unfold LyE
  rw [if_pos (by decide)]
  show uE cA bs 52 2 = _
  unfold uE E_X9_init
  rw [upE_ne (by decide)]
  rw [upE_ne (by decide)]
  rw [upE_ne (by decide)]
  rw [upE_eq (by decide)]
  rfl
theorem eF_105 {cA : Nat → ClassId} {bs : Nat} {sa : Nat → Nat} {E : Nat → va_E} : EF1 cA bs E 55 = ce cA (adF bs sa) I0 L0 (GRf 0) 105 := by
  unfold EF1 E_X11_init
  rw [upE_ne (by decide)]
  rw [E_X5_init_ne (by decide) (by decide)]
  rw [upE_ne (by decide)]
  rw [upE_ne (by decide)]
  rw [E_X2_init_ne (by decide) (by decide)]
  rw [upE_ne (by decide)]
  rw [upE_ne (by decide)]
  rw [upE_ne (by decide)]
  rw [E_X0_init_ne (by decide) (by decide)]
  rw [upE_ne (by decide)]
  rw [upE_ne (by decide)]
  rw [E_X8_init_ne (by decide) (by decide)]
  rw [upE_ne (by decide)]
  unfold E_X10_init
  unfold LyE
  rw [if_pos (by decide)]
  show uE cA bs 52 3 = _
  unfold uE E_X9_init
  rw [upE_ne (by decide)]
  rw [upE_eq (by decide)]
  rfl
theorem eF_106 {cA : Nat → ClassId} {bs : Nat} {sa : Nat → Nat} {E : Nat → va_E} : EF1 cA bs E 56 = ce cA (adF bs sa) I0 L0 (GRf 0) 106 := by
  unfold EF1 E_X11_init
  rw [upE_ne (by decide)]
  rw [E_X5_init_ne (by decide) (by decide)]
  rw [upE_ne (by decide)]
  rw [upE_ne (by decide)]
  rw [E_X2_init_ne (by decide) (by decide)]
  rw [upE_ne (by decide)]
  rw [upE_ne (by decide)]
  rw [upE_ne (by decide)]
  rw [E_X0_init_ne (by decide) (by decide)]
  rw [upE_ne (by decide)]
  rw [upE_ne (by decide)]
  rw [E_X8_init_ne (by decide) (by decide)]
  rw [upE_ne (by decide)]
  unfold E_X10_init
  unfold LyE
  rw [if_pos (by decide)]
  show uE cA bs 56 0 = _
  unfold uE E_X9_init
  rw [upE_eq (by decide)]
  rfl
theorem eF_107 {cA : Nat → ClassId} {bs : Nat} {sa : Nat → Nat} {E : Nat → va_E} : EF1 cA bs E 57 = ce cA (adF bs sa) I0 L0 (GRf 0) 107 := by
  unfold EF1 E_X11_init
  rw [upE_ne (by decide)]
  rw [E_X5_init_ne (by decide) (by decide)]
  rw [upE_ne (by decide)]
  rw [upE_ne (by decide)]
  rw [E_X2_init_ne (by decide) (by decide)]
  rw [upE_ne (by decide)]
  rw [upE_ne (by decide)]
  rw [upE_ne (by decide)]
  rw [E_X0_init_ne (by decide) (by decide)]
  rw [upE_ne (by decide)]
  rw [upE_ne (by decide)]
  rw [E_X8_init_ne (by decide) (by decide)]
  rw [upE_ne (by decide)]
  unfold E_X10_init
  unfold LyE
  rw [if_pos (by decide)]
  show uE cA bs 56 1 = _
  unfold uE E_X9_init
  rw [upE_ne (by decide)]
  rw [upE_ne (by decide)]
  rw [upE_ne (by decide)]
  rw [upE_ne (by decide)]
  rw [upE_ne (by decide)]
  rw [upE_eq (by decide)]
  rfl
theorem eF_108 {cA : Nat → ClassId} {bs : Nat} {sa : Nat → Nat} {E : Nat → va_E} : EF1 cA bs E 58 = ce cA (adF bs sa) I0 L0 (GRf 0) 108 := by
  unfold EF1 E_X11_init
  rw [upE_ne (by decide)]
  rw [E_X5_init_ne (by decide) (by decide)]
  rw [upE_ne (by decide)]
  rw [upE_ne (by decide)]
  rw [E_X2_init_ne (by decide) (by decide)]
  rw [upE_ne (by decide)]
  rw [upE_ne (by decide)]
  rw [upE_ne (by decide)]
  rw [E_X0_init_ne (by decide) (by decide)]
  rw [upE_ne (by decide)]
  rw [upE_ne (by decide)]
  rw [E_X8_init_ne (by decide) (by decide)]
  rw [upE_ne (by decide)]
  unfold E_X10_init
  unfold LyE
  rw [if_pos (by decide)]
  show uE cA bs 56 2 = _
  unfold uE E_X9_init
  rw [upE_ne (by decide)]
  rw [upE_ne (by decide)]
  rw [upE_ne (by decide)]
  rw [upE_eq (by decide)]
  rfl
theorem eF_109 {cA : Nat → ClassId} {bs : Nat} {sa : Nat → Nat} {E : Nat → va_E} : EF1 cA bs E 59 = ce cA (adF bs sa) I0 L0 (GRf 0) 109 := by
  unfold EF1 E_X11_init
  rw [upE_ne (by decide)]
  rw [E_X5_init_ne (by decide) (by decide)]
  rw [upE_ne (by decide)]
  rw [upE_ne (by decide)]
  rw [E_X2_init_ne (by decide) (by decide)]
  rw [upE_ne (by decide)]
  rw [upE_ne (by decide)]
  rw [upE_ne (by decide)]
  rw [E_X0_init_ne (by decide) (by decide)]
  rw [upE_ne (by decide)]
  rw [upE_ne (by decide)]
  rw [E_X8_init_ne (by decide) (by decide)]
  rw [upE_ne (by decide)]
  unfold E_X10_init
  unfold LyE
  rw [if_pos (by decide)]
  show uE cA bs 56 3 = _
  unfold uE E_X9_init
  rw [upE_ne (by decide)]
  rw [upE_eq (by decide)]
  rfl
theorem eF_110 {cA : Nat → ClassId} {bs : Nat} {sa : Nat → Nat} {E : Nat → va_E} : EF1 cA bs E 60 = ce cA (adF bs sa) I0 L0 (GRf 0) 110 := by
  unfold EF1 E_X11_init
  rw [upE_ne (by decide)]
  rw [E_X5_init_ne (by decide) (by decide)]
  rw [upE_ne (by decide)]
  rw [upE_ne (by decide)]
  rw [E_X2_init_ne (by decide) (by decide)]
  rw [upE_ne (by decide)]
  rw [upE_ne (by decide)]
  rw [upE_ne (by decide)]
  rw [E_X0_init_ne (by decide) (by decide)]
  rw [upE_ne (by decide)]
  rw [upE_ne (by decide)]
  rw [E_X8_init_ne (by decide) (by decide)]
  rw [upE_ne (by decide)]
  unfold E_X10_init
  unfold LyE
  rw [if_pos (by decide)]
  show uE cA bs 60 0 = _
  unfold uE E_X9_init
  rw [upE_eq (by decide)]
  rfl
theorem eF_111 {cA : Nat → ClassId} {bs : Nat} {sa : Nat → Nat} {E : Nat → va_E} : EF1 cA bs E 61 = ce cA (adF bs sa) I0 L0 (GRf 0) 111 := by
  unfold EF1 E_X11_init
  rw [upE_ne (by decide)]
  rw [E_X5_init_ne (by decide) (by decide)]
  rw [upE_ne (by decide)]
  rw [upE_ne (by decide)]
  rw [E_X2_init_ne (by decide) (by decide)]
  rw [upE_ne (by decide)]
  rw [upE_ne (by decide)]
  rw [upE_ne (by decide)]
  rw [E_X0_init_ne (by decide) (by decide)]
  rw [upE_ne (by decide)]
  rw [upE_ne (by decide)]
  rw [E_X8_init_ne (by decide) (by decide)]
  rw [upE_ne (by decide)]
  unfold E_X10_init
  unfold LyE
  rw [if_pos (by decide)]
  show uE cA bs 60 1 = _
  unfold uE E_X9_init
  rw [upE_ne (by decide)]
  rw [upE_ne (by decide)]
  rw [upE_ne (by decide)]
  rw [upE_ne (by decide)]
  rw [upE_ne (by decide)]
  rw [upE_eq (by decide)]
  rfl
theorem eF_112 {cA : Nat → ClassId} {bs : Nat} {sa : Nat → Nat} {E : Nat → va_E} : EF1 cA bs E 62 = ce cA (adF bs sa) I0 L0 (GRf 0) 112 := by
  unfold EF1 E_X11_init
  rw [upE_ne (by decide)]
  rw [E_X5_init_ne (by decide) (by decide)]
  rw [upE_ne (by decide)]
  rw [upE_ne (by decide)]
  rw [E_X2_init_ne (by decide) (by decide)]
  rw [upE_ne (by decide)]
  rw [upE_ne (by decide)]
  rw [upE_ne (by decide)]
  rw [E_X0_init_ne (by decide) (by decide)]
  rw [upE_ne (by decide)]
  rw [upE_ne (by decide)]
  rw [E_X8_init_ne (by decide) (by decide)]
  rw [upE_ne (by decide)]
  unfold E_X10_init
  unfold LyE
  rw [if_pos (by decide)]
  show uE cA bs 60 2 = _
  unfold uE E_X9_init
  rw [upE_ne (by decide)]
  rw [upE_ne (by decide)]
  rw [upE_ne (by decide)]
  rw [upE_eq (by decide)]
  rfl
theorem eF_113 {cA : Nat → ClassId} {bs : Nat} {sa : Nat → Nat} {E : Nat → va_E} : EF1 cA bs E 63 = ce cA (adF bs sa) I0 L0 (GRf 0) 113 := by
  unfold EF1 E_X11_init
  rw [upE_ne (by decide)]
  rw [E_X5_init_ne (by decide) (by decide)]
  rw [upE_ne (by decide)]
  rw [upE_ne (by decide)]
  rw [E_X2_init_ne (by decide) (by decide)]
  rw [upE_ne (by decide)]
  rw [upE_ne (by decide)]
  rw [upE_ne (by decide)]
  rw [E_X0_init_ne (by decide) (by decide)]
  rw [upE_ne (by decide)]
  rw [upE_ne (by decide)]
  rw [E_X8_init_ne (by decide) (by decide)]
  rw [upE_ne (by decide)]
  unfold E_X10_init
  unfold LyE
  rw [if_pos (by decide)]
  show uE cA bs 60 3 = _
  unfold uE E_X9_init
  rw [upE_ne (by decide)]
  rw [upE_eq (by decide)]
  rfl
theorem eF_114 {cA : Nat → ClassId} {bs : Nat} {sa : Nat → Nat} {E : Nat → va_E} : EF1 cA bs E 64 = ce cA (adF bs sa) I0 L0 (GRf 0) 114 := by
  unfold EF1 E_X11_init
  rw [upE_ne (by decide)]
  rw [E_X5_init_ne (by decide) (by decide)]
  rw [upE_ne (by decide)]
  rw [upE_ne (by decide)]
  rw [E_X2_init_ne (by decide) (by decide)]
  rw [upE_ne (by decide)]
  rw [upE_ne (by decide)]
  rw [upE_ne (by decide)]
  rw [E_X0_init_ne (by decide) (by decide)]
  rw [upE_ne (by decide)]
  rw [upE_ne (by decide)]
  rw [E_X8_init_ne (by decide) (by decide)]
  rw [upE_ne (by decide)]
  unfold E_X10_init
  unfold LyE
  rw [if_pos (by decide)]
  show uE cA bs 64 0 = _
  unfold uE E_X9_init
  rw [upE_eq (by decide)]
  rfl
theorem eF_115 {cA : Nat → ClassId} {bs : Nat} {sa : Nat → Nat} {E : Nat → va_E} : EF1 cA bs E 65 = ce cA (adF bs sa) I0 L0 (GRf 0) 115 := by
  unfold EF1 E_X11_init
  rw [upE_ne (by decide)]
  rw [E_X5_init_ne (by decide) (by decide)]
  rw [upE_ne (by decide)]
  rw [upE_ne (by decide)]
  rw [E_X2_init_ne (by decide) (by decide)]
  rw [upE_ne (by decide)]
  rw [upE_ne (by decide)]
  rw [upE_ne (by decide)]
  rw [E_X0_init_ne (by decide) (by decide)]
  rw [upE_ne (by decide)]
  rw [upE_ne (by decide)]
  rw [E_X8_init_ne (by decide) (by decide)]
  rw [upE_ne (by decide)]
  unfold E_X10_init
  unfold LyE
  rw [if_pos (by decide)]
  show uE cA bs 64 1 = _
  unfold uE E_X9_init
  rw [upE_ne (by decide)]
  rw [upE_ne (by decide)]
  rw [upE_ne (by decide)]
  rw [upE_ne (by decide)]
  rw [upE_ne (by decide)]
  rw [upE_eq (by decide)]
  rfl
theorem eF_116 {cA : Nat → ClassId} {bs : Nat} {sa : Nat → Nat} {E : Nat → va_E} : EF1 cA bs E 66 = ce cA (adF bs sa) I0 L0 (GRf 0) 116 := by
  unfold EF1 E_X11_init
  rw [upE_ne (by decide)]
  rw [E_X5_init_ne (by decide) (by decide)]
  rw [upE_ne (by decide)]
  rw [upE_ne (by decide)]
  rw [E_X2_init_ne (by decide) (by decide)]
  rw [upE_ne (by decide)]
  rw [upE_ne (by decide)]
  rw [upE_ne (by decide)]
  rw [E_X0_init_ne (by decide) (by decide)]
  rw [upE_ne (by decide)]
  rw [upE_ne (by decide)]
  rw [E_X8_init_ne (by decide) (by decide)]
  rw [upE_ne (by decide)]
  unfold E_X10_init
  unfold LyE
  rw [if_pos (by decide)]
  show uE cA bs 64 2 = _
  unfold uE E_X9_init
  rw [upE_ne (by decide)]
  rw [upE_ne (by decide)]
  rw [upE_ne (by decide)]
  rw [upE_eq (by decide)]
  rfl
theorem eF_117 {cA : Nat → ClassId} {bs : Nat} {sa : Nat → Nat} {E : Nat → va_E} : EF1 cA bs E 67 = ce cA (adF bs sa) I0 L0 (GRf 0) 117 := by
  unfold EF1 E_X11_init
  rw [upE_ne (by decide)]
  rw [E_X5_init_ne (by decide) (by decide)]
  rw [upE_ne (by decide)]
  rw [upE_ne (by decide)]
  rw [E_X2_init_ne (by decide) (by decide)]
  rw [upE_ne (by decide)]
  rw [upE_ne (by decide)]
  rw [upE_ne (by decide)]
  rw [E_X0_init_ne (by decide) (by decide)]
  rw [upE_ne (by decide)]
  rw [upE_ne (by decide)]
  rw [E_X8_init_ne (by decide) (by decide)]
  rw [upE_ne (by decide)]
  unfold E_X10_init
  unfold LyE
  rw [if_pos (by decide)]
  show uE cA bs 64 3 = _
  unfold uE E_X9_init
  rw [upE_ne (by decide)]
  rw [upE_eq (by decide)]
  rfl
theorem eF_118 {cA : Nat → ClassId} {bs : Nat} {sa : Nat → Nat} {E : Nat → va_E} : EF1 cA bs E 68 = ce cA (adF bs sa) I0 L0 (GRf 0) 118 := by
  unfold EF1 E_X11_init
  rw [upE_ne (by decide)]
  rw [E_X5_init_ne (by decide) (by decide)]
  rw [upE_ne (by decide)]
  rw [upE_ne (by decide)]
  rw [E_X2_init_ne (by decide) (by decide)]
  rw [upE_ne (by decide)]
  rw [upE_ne (by decide)]
  rw [upE_ne (by decide)]
  rw [E_X0_init_ne (by decide) (by decide)]
  rw [upE_ne (by decide)]
  rw [upE_ne (by decide)]
  rw [E_X8_init_ne (by decide) (by decide)]
  rw [upE_ne (by decide)]
  unfold E_X10_init
  unfold LyE
  rw [if_pos (by decide)]
  show uE cA bs 68 0 = _
  unfold uE E_X9_init
  rw [upE_eq (by decide)]
  rfl
theorem eF_119 {cA : Nat → ClassId} {bs : Nat} {sa : Nat → Nat} {E : Nat → va_E} : EF1 cA bs E 69 = ce cA (adF bs sa) I0 L0 (GRf 0) 119 := by
  unfold EF1 E_X11_init
  rw [upE_ne (by decide)]
  rw [E_X5_init_ne (by decide) (by decide)]
  rw [upE_ne (by decide)]
  rw [upE_ne (by decide)]
  rw [E_X2_init_ne (by decide) (by decide)]
  rw [upE_ne (by decide)]
  rw [upE_ne (by decide)]
  rw [upE_ne (by decide)]
  rw [E_X0_init_ne (by decide) (by decide)]
  rw [upE_ne (by decide)]
  rw [upE_ne (by decide)]
  rw [E_X8_init_ne (by decide) (by decide)]
  rw [upE_ne (by decide)]
  unfold E_X10_init
  unfold LyE
  rw [if_pos (by decide)]
  show uE cA bs 68 1 = _
  unfold uE E_X9_init
  rw [upE_ne (by decide)]
  rw [upE_ne (by decide)]
  rw [upE_ne (by decide)]
  rw [upE_ne (by decide)]
  rw [upE_ne (by decide)]
  rw [upE_eq (by decide)]
  rfl
theorem eF_120 {cA : Nat → ClassId} {bs : Nat} {sa : Nat → Nat} {E : Nat → va_E} : EF1 cA bs E 70 = ce cA (adF bs sa) I0 L0 (GRf 0) 120 := by
  unfold EF1 E_X11_init
  rw [upE_ne (by decide)]
  rw [E_X5_init_ne (by decide) (by decide)]
  rw [upE_ne (by decide)]
  rw [upE_ne (by decide)]
  rw [E_X2_init_ne (by decide) (by decide)]
  rw [upE_ne (by decide)]
  rw [upE_ne (by decide)]
  rw [upE_ne (by decide)]
  rw [E_X0_init_ne (by decide) (by decide)]
  rw [upE_ne (by decide)]
  rw [upE_ne (by decide)]
  rw [E_X8_init_ne (by decide) (by decide)]
  rw [upE_ne (by decide)]
  unfold E_X10_init
  unfold LyE
  rw [if_pos (by decide)]
  show uE cA bs 68 2 = _
  unfold uE E_X9_init
  rw [upE_ne (by decide)]
  rw [upE_ne (by decide)]
  rw [upE_ne (by decide)]
  rw [upE_eq (by decide)]
  rfl
theorem eF_121 {cA : Nat → ClassId} {bs : Nat} {sa : Nat → Nat} {E : Nat → va_E} : EF1 cA bs E 71 = ce cA (adF bs sa) I0 L0 (GRf 0) 121 := by
  unfold EF1 E_X11_init
  rw [upE_ne (by decide)]
  rw [E_X5_init_ne (by decide) (by decide)]
  rw [upE_ne (by decide)]
  rw [upE_ne (by decide)]
  rw [E_X2_init_ne (by decide) (by decide)]
  rw [upE_ne (by decide)]
  rw [upE_ne (by decide)]
  rw [upE_ne (by decide)]
  rw [E_X0_init_ne (by decide) (by decide)]
  rw [upE_ne (by decide)]
  rw [upE_ne (by decide)]
  rw [E_X8_init_ne (by decide) (by decide)]
  rw [upE_ne (by decide)]
  unfold E_X10_init
  unfold LyE
  rw [if_pos (by decide)]
  show uE cA bs 68 3 = _
  unfold uE E_X9_init
  rw [upE_ne (by decide)]
  rw [upE_eq (by decide)]
  rfl
theorem eF_122 {cA : Nat → ClassId} {bs : Nat} {sa : Nat → Nat} {E : Nat → va_E} : EF1 cA bs E 72 = ce cA (adF bs sa) I0 L0 (GRf 0) 122 := by
  unfold EF1 E_X11_init
  rw [upE_ne (by decide)]
  rw [E_X5_init_ne (by decide) (by decide)]
  rw [upE_ne (by decide)]
  rw [upE_ne (by decide)]
  rw [E_X2_init_ne (by decide) (by decide)]
  rw [upE_ne (by decide)]
  rw [upE_ne (by decide)]
  rw [upE_ne (by decide)]
  rw [E_X0_init_ne (by decide) (by decide)]
  rw [upE_ne (by decide)]
  rw [upE_ne (by decide)]
  rw [E_X8_init_ne (by decide) (by decide)]
  rw [upE_ne (by decide)]
  unfold E_X10_init
  unfold LyE
  rw [if_pos (by decide)]
  show uE cA bs 72 0 = _
  unfold uE E_X9_init
  rw [upE_eq (by decide)]
  rfl
theorem eF_123 {cA : Nat → ClassId} {bs : Nat} {sa : Nat → Nat} {E : Nat → va_E} : EF1 cA bs E 73 = ce cA (adF bs sa) I0 L0 (GRf 0) 123 := by
  unfold EF1 E_X11_init
  rw [upE_ne (by decide)]
  rw [E_X5_init_ne (by decide) (by decide)]
  rw [upE_ne (by decide)]
  rw [upE_ne (by decide)]
  rw [E_X2_init_ne (by decide) (by decide)]
  rw [upE_ne (by decide)]
  rw [upE_ne (by decide)]
  rw [upE_ne (by decide)]
  rw [E_X0_init_ne (by decide) (by decide)]
  rw [upE_ne (by decide)]
  rw [upE_ne (by decide)]
  rw [E_X8_init_ne (by decide) (by decide)]
  rw [upE_ne (by decide)]
  unfold E_X10_init
  unfold LyE
  rw [if_pos (by decide)]
  show uE cA bs 72 1 = _
  unfold uE E_X9_init
  rw [upE_ne (by decide)]
  rw [upE_ne (by decide)]
  rw [upE_ne (by decide)]
  rw [upE_ne (by decide)]
  rw [upE_ne (by decide)]
  rw [upE_eq (by decide)]
  rfl
theorem eF_124 {cA : Nat → ClassId} {bs : Nat} {sa : Nat → Nat} {E : Nat → va_E} : EF1 cA bs E 74 = ce cA (adF bs sa) I0 L0 (GRf 0) 124 := by
  unfold EF1 E_X11_init
  rw [upE_ne (by decide)]
  rw [E_X5_init_ne (by decide) (by decide)]
  rw [upE_ne (by decide)]
  rw [upE_ne (by decide)]
  rw [E_X2_init_ne (by decide) (by decide)]
  rw [upE_ne (by decide)]
  rw [upE_ne (by decide)]
  rw [upE_ne (by decide)]
  rw [E_X0_init_ne (by decide) (by decide)]
  rw [upE_ne (by decide)]
  rw [upE_ne (by decide)]
  rw [E_X8_init_ne (by decide) (by decide)]
  rw [upE_ne (by decide)]
  unfold E_X10_init
  unfold LyE
  rw [if_pos (by decide)]
  show uE cA bs 72 2 = _
  unfold uE E_X9_init
  rw [upE_ne (by decide)]
  rw [upE_ne (by decide)]
  rw [upE_ne (by decide)]
  rw [upE_eq (by decide)]
  rfl
theorem eF_125 {cA : Nat → ClassId} {bs : Nat} {sa : Nat → Nat} {E : Nat → va_E} : EF1 cA bs E 75 = ce cA (adF bs sa) I0 L0 (GRf 0) 125 := by
  unfold EF1 E_X11_init
  rw [upE_ne (by decide)]
  rw [E_X5_init_ne (by decide) (by decide)]
  rw [upE_ne (by decide)]
  rw [upE_ne (by decide)]
  rw [E_X2_init_ne (by decide) (by decide)]
  rw [upE_ne (by decide)]
  rw [upE_ne (by decide)]
  rw [upE_ne (by decide)]
  rw [E_X0_init_ne (by decide) (by decide)]
  rw [upE_ne (by decide)]
  rw [upE_ne (by decide)]
  rw [E_X8_init_ne (by decide) (by decide)]
  rw [upE_ne (by decide)]
  unfold E_X10_init
  unfold LyE
  rw [if_pos (by decide)]
  show uE cA bs 72 3 = _
  unfold uE E_X9_init
  rw [upE_ne (by decide)]
  rw [upE_eq (by decide)]
  rfl
theorem eF_126 {cA : Nat → ClassId} {bs : Nat} {sa : Nat → Nat} {E : Nat → va_E} : EF1 cA bs E 76 = ce cA (adF bs sa) I0 L0 (GRf 0) 126 := by
  unfold EF1 E_X11_init
  rw [upE_ne (by decide)]
  rw [E_X5_init_ne (by decide) (by decide)]
  rw [upE_ne (by decide)]
  rw [upE_ne (by decide)]
  rw [E_X2_init_ne (by decide) (by decide)]
  rw [upE_ne (by decide)]
  rw [upE_ne (by decide)]
  rw [upE_ne (by decide)]
  rw [E_X0_init_ne (by decide) (by decide)]
  rw [upE_ne (by decide)]
  rw [upE_ne (by decide)]
  rw [E_X8_init_ne (by decide) (by decide)]
  rw [upE_ne (by decide)]
  unfold E_X10_init
  unfold LyE
  rw [if_pos (by decide)]
  show uE cA bs 76 0 = _
  unfold uE E_X9_init
  rw [upE_eq (by decide)]
  rfl
theorem eF_127 {cA : Nat → ClassId} {bs : Nat} {sa : Nat → Nat} {E : Nat → va_E} : EF1 cA bs E 77 = ce cA (adF bs sa) I0 L0 (GRf 0) 127 := by
  unfold EF1 E_X11_init
  rw [upE_ne (by decide)]
  rw [E_X5_init_ne (by decide) (by decide)]
  rw [upE_ne (by decide)]
  rw [upE_ne (by decide)]
  rw [E_X2_init_ne (by decide) (by decide)]
  rw [upE_ne (by decide)]
  rw [upE_ne (by decide)]
  rw [upE_ne (by decide)]
  rw [E_X0_init_ne (by decide) (by decide)]
  rw [upE_ne (by decide)]
  rw [upE_ne (by decide)]
  rw [E_X8_init_ne (by decide) (by decide)]
  rw [upE_ne (by decide)]
  unfold E_X10_init
  unfold LyE
  rw [if_pos (by decide)]
  show uE cA bs 76 1 = _
  unfold uE E_X9_init
  rw [upE_ne (by decide)]
  rw [upE_ne (by decide)]
  rw [upE_ne (by decide)]
  rw [upE_ne (by decide)]
  rw [upE_ne (by decide)]
  rw [upE_eq (by decide)]
  rfl
theorem eF_128 {cA : Nat → ClassId} {bs : Nat} {sa : Nat → Nat} {E : Nat → va_E} : EF1 cA bs E 78 = ce cA (adF bs sa) I0 L0 (GRf 0) 128 := by
  unfold EF1 E_X11_init
  rw [upE_ne (by decide)]
  rw [E_X5_init_ne (by decide) (by decide)]
  rw [upE_ne (by decide)]
  rw [upE_ne (by decide)]
  rw [E_X2_init_ne (by decide) (by decide)]
  rw [upE_ne (by decide)]
  rw [upE_ne (by decide)]
  rw [upE_ne (by decide)]
  rw [E_X0_init_ne (by decide) (by decide)]
  rw [upE_ne (by decide)]
  rw [upE_ne (by decide)]
  rw [E_X8_init_ne (by decide) (by decide)]
  rw [upE_ne (by decide)]
  unfold E_X10_init
  unfold LyE
  rw [if_pos (by decide)]
  show uE cA bs 76 2 = _
  unfold uE E_X9_init
  rw [upE_ne (by decide)]
  rw [upE_ne (by decide)]
  rw [upE_ne (by decide)]
  rw [upE_eq (by decide)]
  rfl
theorem eF_129 {cA : Nat → ClassId} {bs : Nat} {sa : Nat → Nat} {E : Nat → va_E} : EF1 cA bs E 79 = ce cA (adF bs sa) I0 L0 (GRf 0) 129 := by
  unfold EF1 E_X11_init
  rw [upE_ne (by decide)]
  rw [E_X5_init_ne (by decide) (by decide)]
  rw [upE_ne (by decide)]
  rw [upE_ne (by decide)]
  rw [E_X2_init_ne (by decide) (by decide)]
  rw [upE_ne (by decide)]
  rw [upE_ne (by decide)]
  rw [upE_ne (by decide)]
  rw [E_X0_init_ne (by decide) (by decide)]
  rw [upE_ne (by decide)]
  rw [upE_ne (by decide)]
  rw [E_X8_init_ne (by decide) (by decide)]
  rw [upE_ne (by decide)]
  unfold E_X10_init
  unfold LyE
  rw [if_pos (by decide)]
  show uE cA bs 76 3 = _
  unfold uE E_X9_init
  rw [upE_ne (by decide)]
  rw [upE_eq (by decide)]
  rfl
theorem eF_130 {cA : Nat → ClassId} {bs : Nat} {sa : Nat → Nat} {E : Nat → va_E} : EF1 cA bs E 80 = ce cA (adF bs sa) I0 L0 (GRf 0) 130 := by
  unfold EF1 E_X11_init
  rw [upE_ne (by decide)]
  rw [E_X5_init_ne (by decide) (by decide)]
  rw [upE_ne (by decide)]
  rw [upE_ne (by decide)]
  rw [E_X2_init_ne (by decide) (by decide)]
  rw [upE_ne (by decide)]
  rw [upE_ne (by decide)]
  rw [upE_ne (by decide)]
  rw [E_X0_init_ne (by decide) (by decide)]
  rw [upE_ne (by decide)]
  rw [upE_ne (by decide)]
  rw [E_X8_init_ne (by decide) (by decide)]
  rw [upE_ne (by decide)]
  unfold E_X10_init
  unfold LyE
  rw [if_pos (by decide)]
  show uE cA bs 80 0 = _
  unfold uE E_X9_init
  rw [upE_eq (by decide)]
  rfl
theorem eF_131 {cA : Nat → ClassId} {bs : Nat} {sa : Nat → Nat} {E : Nat → va_E} : EF1 cA bs E 81 = ce cA (adF bs sa) I0 L0 (GRf 0) 131 := by
  unfold EF1 E_X11_init
  rw [upE_ne (by decide)]
  rw [E_X5_init_ne (by decide) (by decide)]
  rw [upE_ne (by decide)]
  rw [upE_ne (by decide)]
  rw [E_X2_init_ne (by decide) (by decide)]
  rw [upE_ne (by decide)]
  rw [upE_ne (by decide)]
  rw [upE_ne (by decide)]
  rw [E_X0_init_ne (by decide) (by decide)]
  rw [upE_ne (by decide)]
  rw [upE_ne (by decide)]
  rw [E_X8_init_ne (by decide) (by decide)]
  rw [upE_ne (by decide)]
  unfold E_X10_init
  unfold LyE
  rw [if_pos (by decide)]
  show uE cA bs 80 1 = _
  unfold uE E_X9_init
  rw [upE_ne (by decide)]
  rw [upE_ne (by decide)]
  rw [upE_ne (by decide)]
  rw [upE_ne (by decide)]
  rw [upE_ne (by decide)]
  rw [upE_eq (by decide)]
  rfl
theorem eF_132 {cA : Nat → ClassId} {bs : Nat} {sa : Nat → Nat} {E : Nat → va_E} : EF1 cA bs E 82 = ce cA (adF bs sa) I0 L0 (GRf 0) 132 := by
  unfold EF1 E_X11_init
  rw [upE_ne (by decide)]
  rw [E_X5_init_ne (by decide) (by decide)]
  rw [upE_ne (by decide)]
  rw [upE_ne (by decide)]
  rw [E_X2_init_ne (by decide) (by decide)]
  rw [upE_ne (by decide)]
  rw [upE_ne (by decide)]
  rw [upE_ne (by decide)]
  rw [E_X0_init_ne (by decide) (by decide)]
  rw [upE_ne (by decide)]
  rw [upE_ne (by decide)]
  rw [E_X8_init_ne (by decide) (by decide)]
  rw [upE_ne (by decide)]
  unfold E_X10_init
  unfold LyE
  rw [if_pos (by decide)]
  show uE cA bs 80 2 = _
  unfold uE E_X9_init
  rw [upE_ne (by decide)]
  rw [upE_ne (by decide)]
  rw [upE_ne (by decide)]
  rw [upE_eq (by decide)]
  rfl
theorem eF_133 {cA : Nat → ClassId} {bs : Nat} {sa : Nat → Nat} {E : Nat → va_E} : EF1 cA bs E 83 = ce cA (adF bs sa) I0 L0 (GRf 0) 133 := by
  unfold EF1 E_X11_init
  rw [upE_ne (by decide)]
  rw [E_X5_init_ne (by decide) (by decide)]
  rw [upE_ne (by decide)]
  rw [upE_ne (by decide)]
  rw [E_X2_init_ne (by decide) (by decide)]
  rw [upE_ne (by decide)]
  rw [upE_ne (by decide)]
  rw [upE_ne (by decide)]
  rw [E_X0_init_ne (by decide) (by decide)]
  rw [upE_ne (by decide)]
  rw [upE_ne (by decide)]
  rw [E_X8_init_ne (by decide) (by decide)]
  rw [upE_ne (by decide)]
  unfold E_X10_init
  unfold LyE
  rw [if_pos (by decide)]
  show uE cA bs 80 3 = _
  unfold uE E_X9_init
  rw [upE_ne (by decide)]
  rw [upE_eq (by decide)]
  rfl
theorem eF_134 {cA : Nat → ClassId} {bs : Nat} {sa : Nat → Nat} {E : Nat → va_E} : EF1 cA bs E 84 = ce cA (adF bs sa) I0 L0 (GRf 0) 134 := by
  unfold EF1 E_X11_init
  rw [upE_ne (by decide)]
  rw [E_X5_init_ne (by decide) (by decide)]
  rw [upE_ne (by decide)]
  rw [upE_ne (by decide)]
  rw [E_X2_init_ne (by decide) (by decide)]
  rw [upE_ne (by decide)]
  rw [upE_ne (by decide)]
  rw [upE_ne (by decide)]
  rw [E_X0_init_ne (by decide) (by decide)]
  rw [upE_ne (by decide)]
  rw [upE_ne (by decide)]
  rw [E_X8_init_ne (by decide) (by decide)]
  rw [upE_ne (by decide)]
  unfold E_X10_init
  unfold LyE
  rw [if_pos (by decide)]
  show uE cA bs 84 0 = _
  unfold uE E_X9_init
  rw [upE_eq (by decide)]
  rfl
theorem eF_135 {cA : Nat → ClassId} {bs : Nat} {sa : Nat → Nat} {E : Nat → va_E} : EF1 cA bs E 85 = ce cA (adF bs sa) I0 L0 (GRf 0) 135 := by
  unfold EF1 E_X11_init
  rw [upE_ne (by decide)]
  rw [E_X5_init_ne (by decide) (by decide)]
  rw [upE_ne (by decide)]
  rw [upE_ne (by decide)]
  rw [E_X2_init_ne (by decide) (by decide)]
  rw [upE_ne (by decide)]
  rw [upE_ne (by decide)]
  rw [upE_ne (by decide)]
  rw [E_X0_init_ne (by decide) (by decide)]
  rw [upE_ne (by decide)]
  rw [upE_ne (by decide)]
  rw [E_X8_init_ne (by decide) (by decide)]
  rw [upE_ne (by decide)]
  unfold E_X10_init
  unfold LyE
  rw [if_pos (by decide)]
  show uE cA bs 84 1 = _
  unfold uE E_X9_init
  rw [upE_ne (by decide)]
  rw [upE_ne (by decide)]
  rw [upE_ne (by decide)]
  rw [upE_ne (by decide)]
  rw [upE_ne (by decide)]
  rw [upE_eq (by decide)]
  rfl
theorem eF_136 {cA : Nat → ClassId} {bs : Nat} {sa : Nat → Nat} {E : Nat → va_E} : EF1 cA bs E 86 = ce cA (adF bs sa) I0 L0 (GRf 0) 136 := by
  unfold EF1 E_X11_init
  rw [upE_ne (by decide)]
  rw [E_X5_init_ne (by decide) (by decide)]
  rw [upE_ne (by decide)]
  rw [upE_ne (by decide)]
  rw [E_X2_init_ne (by decide) (by decide)]
  rw [upE_ne (by decide)]
  rw [upE_ne (by decide)]
  rw [upE_ne (by decide)]
  rw [E_X0_init_ne (by decide) (by decide)]
  rw [upE_ne (by decide)]
  rw [upE_ne (by decide)]
  rw [E_X8_init_ne (by decide) (by decide)]
  rw [upE_ne (by decide)]
  unfold E_X10_init
  unfold LyE
  rw [if_pos (by decide)]
  show uE cA bs 84 2 = _
  unfold uE E_X9_init
  rw [upE_ne (by decide)]
  rw [upE_ne (by decide)]
  rw [upE_ne (by decide)]
  rw [upE_eq (by decide)]
  rfl
theorem eF_137 {cA : Nat → ClassId} {bs : Nat} {sa : Nat → Nat} {E : Nat → va_E} : EF1 cA bs E 87 = ce cA (adF bs sa) I0 L0 (GRf 0) 137 := by
  unfold EF1 E_X11_init
  rw [upE_ne (by decide)]
  rw [E_X5_init_ne (by decide) (by decide)]
  rw [upE_ne (by decide)]
  rw [upE_ne (by decide)]
  rw [E_X2_init_ne (by decide) (by decide)]
  rw [upE_ne (by decide)]
  rw [upE_ne (by decide)]
  rw [upE_ne (by decide)]
  rw [E_X0_init_ne (by decide) (by decide)]
  rw [upE_ne (by decide)]
  rw [upE_ne (by decide)]
  rw [E_X8_init_ne (by decide) (by decide)]
  rw [upE_ne (by decide)]
  unfold E_X10_init
  unfold LyE
  rw [if_pos (by decide)]
  show uE cA bs 84 3 = _
  unfold uE E_X9_init
  rw [upE_ne (by decide)]
  rw [upE_eq (by decide)]
  rfl
set_option maxRecDepth 100000 in
theorem eF_138 {cA : Nat → ClassId} {bs : Nat} {sa : Nat → Nat} {E : Nat → va_E} : EF1 cA bs E 3 = ce cA (adF bs sa) I0 L0 (GRf 0) 138 := by
  unfold EF1 E_X11_init
  rw [upE_ne (by decide)]
  rw [E_X5_init_ne (by decide) (by decide)]
  rw [upE_ne (by decide)]
  rw [upE_ne (by decide)]
  rw [E_X2_init_ne (by decide) (by decide)]
  rw [upE_ne (by decide)]
  rw [upE_ne (by decide)]
  rw [upE_ne (by decide)]
  rw [E_X0_init_ne (by decide) (by decide)]
  rw [upE_ne (by decide)]
  rw [upE_ne (by decide)]
  rw [E_X8_init_ne (by decide) (by decide)]
  rw [upE_ne (by decide)]
  unfold E_X10_init
  rw [LyE_ne (by decide) (by decide)]
  unfold E0_X10_init
  rw [upE_ne (by decide)]
  rw [upE_ne (by decide)]
  rw [upE_ne (by decide)]
  unfold E_X9_init
  rw [upE_eq (by decide)]
  rfl
theorem eF_139 {cA : Nat → ClassId} {bs : Nat} {sa : Nat → Nat} {E : Nat → va_E} : EF1 cA bs E 4 = ce cA (adF bs sa) I0 L0 (GRf 0) 139 := by
  unfold EF1 E_X11_init
  rw [upE_ne (by decide)]
  rw [E_X5_init_ne (by decide) (by decide)]
  rw [upE_ne (by decide)]
  rw [upE_ne (by decide)]
  rw [E_X2_init_ne (by decide) (by decide)]
  rw [upE_ne (by decide)]
  rw [upE_ne (by decide)]
  rw [upE_ne (by decide)]
  rw [E_X0_init_ne (by decide) (by decide)]
  rw [upE_ne (by decide)]
  rw [upE_ne (by decide)]
  rw [E_X8_init_ne (by decide) (by decide)]
  rw [upE_ne (by decide)]
  unfold E_X10_init
  rw [LyE_ne (by decide) (by decide)]
  unfold E0_X10_init
  rw [upE_ne (by decide)]
  rw [upE_ne (by decide)]
  rw [upE_ne (by decide)]
  unfold E_X9_init
  rw [upE_ne (by decide)]
  rw [upE_ne (by decide)]
  rw [upE_ne (by decide)]
  rw [upE_ne (by decide)]
  rw [upE_ne (by decide)]
  rw [upE_eq (by decide)]
  rfl
theorem eF_140 {cA : Nat → ClassId} {bs : Nat} {sa : Nat → Nat} {E : Nat → va_E} : EF1 cA bs E 5 = ce cA (adF bs sa) I0 L0 (GRf 0) 140 := by
  unfold EF1 E_X11_init
  rw [upE_ne (by decide)]
  rw [E_X5_init_ne (by decide) (by decide)]
  rw [upE_ne (by decide)]
  rw [upE_ne (by decide)]
  rw [E_X2_init_ne (by decide) (by decide)]
  rw [upE_ne (by decide)]
  rw [upE_ne (by decide)]
  rw [upE_ne (by decide)]
  rw [E_X0_init_ne (by decide) (by decide)]
  rw [upE_ne (by decide)]
  rw [upE_ne (by decide)]
  rw [E_X8_init_ne (by decide) (by decide)]
  rw [upE_ne (by decide)]
  unfold E_X10_init
  rw [LyE_ne (by decide) (by decide)]
  unfold E0_X10_init
  rw [upE_ne (by decide)]
  rw [upE_ne (by decide)]
  rw [upE_ne (by decide)]
  unfold E_X9_init
  rw [upE_ne (by decide)]
  rw [upE_ne (by decide)]
  rw [upE_ne (by decide)]
  rw [upE_eq (by decide)]
  rfl
theorem eF_141 {cA : Nat → ClassId} {bs : Nat} {sa : Nat → Nat} {E : Nat → va_E} : EF1 cA bs E 6 = ce cA (adF bs sa) I0 L0 (GRf 0) 141 := by
  unfold EF1 E_X11_init
  rw [upE_ne (by decide)]
  rw [E_X5_init_ne (by decide) (by decide)]
  rw [upE_ne (by decide)]
  rw [upE_ne (by decide)]
  rw [E_X2_init_ne (by decide) (by decide)]
  rw [upE_ne (by decide)]
  rw [upE_ne (by decide)]
  rw [upE_ne (by decide)]
  rw [E_X0_init_ne (by decide) (by decide)]
  rw [upE_ne (by decide)]
  rw [upE_ne (by decide)]
  rw [E_X8_init_ne (by decide) (by decide)]
  rw [upE_ne (by decide)]
  unfold E_X10_init
  rw [LyE_ne (by decide) (by decide)]
  unfold E0_X10_init
  rw [upE_ne (by decide)]
  rw [upE_ne (by decide)]
  rw [upE_ne (by decide)]
  unfold E_X9_init
  rw [upE_ne (by decide)]
  rw [upE_eq (by decide)]
  rfl
theorem eF_142 {cA : Nat → ClassId} {bs : Nat} {sa : Nat → Nat} {E : Nat → va_E} : EF1 cA bs E 107 = ce cA (adF bs sa) I0 L0 (GRf 0) 142 := by
  unfold EF1 E_X11_init
  rw [upE_ne (by decide)]
  rw [E_X5_init_ne (by decide) (by decide)]
  rw [upE_ne (by decide)]
  rw [upE_ne (by decide)]
  unfold E_X2_init
  rw [upE_ne (by decide)]
  unfold E_X5_init
  unfold LpE
  rw [if_pos (by decide)]
  rfl
theorem eF_143 {cA : Nat → ClassId} {bs : Nat} {sa : Nat → Nat} {E : Nat → va_E} : EF1 cA bs E 108 = ce cA (adF bs sa) I0 L0 (GRf 0) 143 := by
  unfold EF1 E_X11_init
  rw [upE_ne (by decide)]
  rw [E_X5_init_ne (by decide) (by decide)]
  rw [upE_ne (by decide)]
  rw [upE_ne (by decide)]
  unfold E_X2_init
  rw [upE_ne (by decide)]
  unfold E_X5_init
  unfold LpE
  rw [if_pos (by decide)]
  rfl
theorem eF_144 {cA : Nat → ClassId} {bs : Nat} {sa : Nat → Nat} {E : Nat → va_E} : EF1 cA bs E 109 = ce cA (adF bs sa) I0 L0 (GRf 0) 144 := by
  unfold EF1 E_X11_init
  rw [upE_ne (by decide)]
  rw [E_X5_init_ne (by decide) (by decide)]
  rw [upE_ne (by decide)]
  rw [upE_ne (by decide)]
  unfold E_X2_init
  rw [upE_ne (by decide)]
  unfold E_X5_init
  unfold LpE
  rw [if_pos (by decide)]
  rfl
theorem eF_145 {cA : Nat → ClassId} {bs : Nat} {sa : Nat → Nat} {E : Nat → va_E} : EF1 cA bs E 110 = ce cA (adF bs sa) I0 L0 (GRf 0) 145 := by
  unfold EF1 E_X11_init
  rw [upE_ne (by decide)]
  rw [E_X5_init_ne (by decide) (by decide)]
  rw [upE_ne (by decide)]
  rw [upE_ne (by decide)]
  unfold E_X2_init
  rw [upE_ne (by decide)]
  unfold E_X5_init
  unfold LpE
  rw [if_pos (by decide)]
  rfl
theorem eF_146 {cA : Nat → ClassId} {bs : Nat} {sa : Nat → Nat} {E : Nat → va_E} : EF1 cA bs E 111 = ce cA (adF bs sa) I0 L0 (GRf 0) 146 := by
  unfold EF1 E_X11_init
  rw [upE_ne (by decide)]
  rw [E_X5_init_ne (by decide) (by decide)]
  rw [upE_ne (by decide)]
  rw [upE_ne (by decide)]
  unfold E_X2_init
  rw [upE_ne (by decide)]
  unfold E_X5_init
  unfold LpE
  rw [if_pos (by decide)]
  rfl
theorem eF_147 {cA : Nat → ClassId} {bs : Nat} {sa : Nat → Nat} {E : Nat → va_E} : EF1 cA bs E 112 = ce cA (adF bs sa) I0 L0 (GRf 0) 147 := by
  unfold EF1 E_X11_init
  rw [upE_ne (by decide)]
  rw [E_X5_init_ne (by decide) (by decide)]
  rw [upE_ne (by decide)]
  rw [upE_ne (by decide)]
  unfold E_X2_init
  rw [upE_ne (by decide)]
  unfold E_X5_init
  unfold LpE
  rw [if_pos (by decide)]
  rfl
theorem eF_148 {cA : Nat → ClassId} {bs : Nat} {sa : Nat → Nat} {E : Nat → va_E} : EF1 cA bs E 113 = ce cA (adF bs sa) I0 L0 (GRf 0) 148 := by
  unfold EF1 E_X11_init
  rw [upE_ne (by decide)]
  rw [E_X5_init_ne (by decide) (by decide)]
  rw [upE_ne (by decide)]
  rw [upE_ne (by decide)]
  unfold E_X2_init
  rw [upE_ne (by decide)]
  unfold E_X5_init
  unfold LpE
  rw [if_pos (by decide)]
  rfl
theorem eF_149 {cA : Nat → ClassId} {bs : Nat} {sa : Nat → Nat} {E : Nat → va_E} : EF1 cA bs E 114 = ce cA (adF bs sa) I0 L0 (GRf 0) 149 := by
  unfold EF1 E_X11_init
  rw [upE_ne (by decide)]
  rw [E_X5_init_ne (by decide) (by decide)]
  rw [upE_ne (by decide)]
  rw [upE_ne (by decide)]
  unfold E_X2_init
  rw [upE_ne (by decide)]
  unfold E_X5_init
  unfold LpE
  rw [if_pos (by decide)]
  rfl
theorem eF_150 {cA : Nat → ClassId} {bs : Nat} {sa : Nat → Nat} {E : Nat → va_E} : EF1 cA bs E 115 = ce cA (adF bs sa) I0 L0 (GRf 0) 150 := by
  unfold EF1 E_X11_init
  rw [upE_ne (by decide)]
  rw [E_X5_init_ne (by decide) (by decide)]
  rw [upE_ne (by decide)]
  rw [upE_ne (by decide)]
  unfold E_X2_init
  rw [upE_ne (by decide)]
  unfold E_X5_init
  unfold LpE
  rw [if_pos (by decide)]
  rfl
theorem eF_151 {cA : Nat → ClassId} {bs : Nat} {sa : Nat → Nat} {E : Nat → va_E} : EF1 cA bs E 116 = ce cA (adF bs sa) I0 L0 (GRf 0) 151 := by
  unfold EF1 E_X11_init
  rw [upE_ne (by decide)]
  rw [E_X5_init_ne (by decide) (by decide)]
  rw [upE_ne (by decide)]
  rw [upE_ne (by decide)]
  unfold E_X2_init
  rw [upE_ne (by decide)]
  unfold E_X5_init
  unfold LpE
  rw [if_pos (by decide)]
  rfl
theorem eF_152 {cA : Nat → ClassId} {bs : Nat} {sa : Nat → Nat} {E : Nat → va_E} : EF1 cA bs E 117 = ce cA (adF bs sa) I0 L0 (GRf 0) 152 := by
  unfold EF1 E_X11_init
  rw [upE_ne (by decide)]
  rw [E_X5_init_ne (by decide) (by decide)]
  rw [upE_ne (by decide)]
  rw [upE_ne (by decide)]
  unfold E_X2_init
  rw [upE_ne (by decide)]
  unfold E_X5_init
  unfold LpE
  rw [if_pos (by decide)]
  rfl
theorem eF_153 {cA : Nat → ClassId} {bs : Nat} {sa : Nat → Nat} {E : Nat → va_E} : EF1 cA bs E 118 = ce cA (adF bs sa) I0 L0 (GRf 0) 153 := by
  unfold EF1 E_X11_init
  rw [upE_ne (by decide)]
  rw [E_X5_init_ne (by decide) (by decide)]
  rw [upE_ne (by decide)]
  rw [upE_ne (by decide)]
  unfold E_X2_init
  rw [upE_ne (by decide)]
  unfold E_X5_init
  unfold LpE
  rw [if_pos (by decide)]
  rfl
theorem eF_154 {cA : Nat → ClassId} {bs : Nat} {sa : Nat → Nat} {E : Nat → va_E} : EF1 cA bs E 119 = ce cA (adF bs sa) I0 L0 (GRf 0) 154 := by
  unfold EF1 E_X11_init
  rw [upE_ne (by decide)]
  rw [E_X5_init_ne (by decide) (by decide)]
  rw [upE_ne (by decide)]
  rw [upE_ne (by decide)]
  unfold E_X2_init
  rw [upE_ne (by decide)]
  unfold E_X5_init
  unfold LpE
  rw [if_pos (by decide)]
  rfl
theorem eF_155 {cA : Nat → ClassId} {bs : Nat} {sa : Nat → Nat} {E : Nat → va_E} : EF1 cA bs E 120 = ce cA (adF bs sa) I0 L0 (GRf 0) 155 := by
  unfold EF1 E_X11_init
  rw [upE_ne (by decide)]
  rw [E_X5_init_ne (by decide) (by decide)]
  rw [upE_ne (by decide)]
  rw [upE_ne (by decide)]
  unfold E_X2_init
  rw [upE_ne (by decide)]
  unfold E_X5_init
  unfold LpE
  rw [if_pos (by decide)]
  rfl
theorem eF_156 {cA : Nat → ClassId} {bs : Nat} {sa : Nat → Nat} {E : Nat → va_E} : EF1 cA bs E 121 = ce cA (adF bs sa) I0 L0 (GRf 0) 156 := by
  unfold EF1 E_X11_init
  rw [upE_ne (by decide)]
  rw [E_X5_init_ne (by decide) (by decide)]
  rw [upE_ne (by decide)]
  rw [upE_ne (by decide)]
  unfold E_X2_init
  rw [upE_ne (by decide)]
  unfold E_X5_init
  unfold LpE
  rw [if_pos (by decide)]
  rfl
theorem eF_157 {cA : Nat → ClassId} {bs : Nat} {sa : Nat → Nat} {E : Nat → va_E} : EF1 cA bs E 122 = ce cA (adF bs sa) I0 L0 (GRf 0) 157 := by
  unfold EF1 E_X11_init
  rw [upE_ne (by decide)]
  rw [E_X5_init_ne (by decide) (by decide)]
  rw [upE_ne (by decide)]
  rw [upE_ne (by decide)]
  unfold E_X2_init
  rw [upE_ne (by decide)]
  unfold E_X5_init
  unfold LpE
  rw [if_pos (by decide)]
  rfl
theorem eF_158 {cA : Nat → ClassId} {bs : Nat} {sa : Nat → Nat} {E : Nat → va_E} : EF1 cA bs E 123 = ce cA (adF bs sa) I0 L0 (GRf 0) 158 := by
  unfold EF1 E_X11_init
  rw [upE_ne (by decide)]
  rw [E_X5_init_ne (by decide) (by decide)]
  rw [upE_ne (by decide)]
  rw [upE_ne (by decide)]
  unfold E_X2_init
  rw [upE_ne (by decide)]
  unfold E_X5_init
  unfold LpE
  rw [if_pos (by decide)]
  rfl
theorem eF_159 {cA : Nat → ClassId} {bs : Nat} {sa : Nat → Nat} {E : Nat → va_E} : EF1 cA bs E 124 = ce cA (adF bs sa) I0 L0 (GRf 0) 159 := by
  unfold EF1 E_X11_init
  rw [upE_ne (by decide)]
  rw [E_X5_init_ne (by decide) (by decide)]
  rw [upE_ne (by decide)]
  rw [upE_ne (by decide)]
  unfold E_X2_init
  rw [upE_ne (by decide)]
  unfold E_X5_init
  unfold LpE
  rw [if_pos (by decide)]
  rfl
theorem eF_160 {cA : Nat → ClassId} {bs : Nat} {sa : Nat → Nat} {E : Nat → va_E} : EF1 cA bs E 125 = ce cA (adF bs sa) I0 L0 (GRf 0) 160 := by
  unfold EF1 E_X11_init
  rw [upE_ne (by decide)]
  rw [E_X5_init_ne (by decide) (by decide)]
  rw [upE_ne (by decide)]
  rw [upE_ne (by decide)]
  unfold E_X2_init
  rw [upE_ne (by decide)]
  unfold E_X5_init
  unfold LpE
  rw [if_pos (by decide)]
  rfl
theorem eF_161 {cA : Nat → ClassId} {bs : Nat} {sa : Nat → Nat} {E : Nat → va_E} : EF1 cA bs E 126 = ce cA (adF bs sa) I0 L0 (GRf 0) 161 := by
  unfold EF1 E_X11_init
  rw [upE_ne (by decide)]
  rw [E_X5_init_ne (by decide) (by decide)]
  rw [upE_ne (by decide)]
  rw [upE_ne (by decide)]
  unfold E_X2_init
  rw [upE_ne (by decide)]
  unfold E_X5_init
  unfold LpE
  rw [if_pos (by decide)]
  rfl
theorem eF_162 {cA : Nat → ClassId} {bs : Nat} {sa : Nat → Nat} {E : Nat → va_E} : EF1 cA bs E 127 = ce cA (adF bs sa) I0 L0 (GRf 0) 162 := by
  unfold EF1 E_X11_init
  rw [upE_ne (by decide)]
  rw [E_X5_init_ne (by decide) (by decide)]
  rw [upE_ne (by decide)]
  rw [upE_ne (by decide)]
  unfold E_X2_init
  rw [upE_ne (by decide)]
  unfold E_X5_init
  unfold LpE
  rw [if_pos (by decide)]
  rfl
theorem eF_163 {cA : Nat → ClassId} {bs : Nat} {sa : Nat → Nat} {E : Nat → va_E} : EF1 cA bs E 128 = ce cA (adF bs sa) I0 L0 (GRf 0) 163 := by
  unfold EF1 E_X11_init
  rw [upE_ne (by decide)]
  rw [E_X5_init_ne (by decide) (by decide)]
  rw [upE_ne (by decide)]
  rw [upE_ne (by decide)]
  unfold E_X2_init
  rw [upE_ne (by decide)]
  unfold E_X5_init
  unfold LpE
  rw [if_pos (by decide)]
  rfl
theorem eF_164 {cA : Nat → ClassId} {bs : Nat} {sa : Nat → Nat} {E : Nat → va_E} : EF1 cA bs E 129 = ce cA (adF bs sa) I0 L0 (GRf 0) 164 := by
  unfold EF1 E_X11_init
  rw [upE_ne (by decide)]
  rw [E_X5_init_ne (by decide) (by decide)]
  rw [upE_ne (by decide)]
  rw [upE_ne (by decide)]
  unfold E_X2_init
  rw [upE_ne (by decide)]
  unfold E_X5_init
  unfold LpE
  rw [if_pos (by decide)]
  rfl
theorem eF_165 {cA : Nat → ClassId} {bs : Nat} {sa : Nat → Nat} {E : Nat → va_E} : EF1 cA bs E 130 = ce cA (adF bs sa) I0 L0 (GRf 0) 165 := by
  unfold EF1 E_X11_init
  rw [upE_ne (by decide)]
  rw [E_X5_init_ne (by decide) (by decide)]
  rw [upE_ne (by decide)]
  rw [upE_ne (by decide)]
  unfold E_X2_init
  rw [upE_ne (by decide)]
  unfold E_X5_init
  unfold LpE
  rw [if_pos (by decide)]
  rfl
theorem eF_166 {cA : Nat → ClassId} {bs : Nat} {sa : Nat → Nat} {E : Nat → va_E} : EF1 cA bs E 131 = ce cA (adF bs sa) I0 L0 (GRf 0) 166 := by
  unfold EF1 E_X11_init
  rw [upE_ne (by decide)]
  rw [E_X5_init_ne (by decide) (by decide)]
  rw [upE_ne (by decide)]
  rw [upE_ne (by decide)]
  unfold E_X2_init
  rw [upE_ne (by decide)]
  unfold E_X5_init
  unfold LpE
  rw [if_pos (by decide)]
  rfl
theorem eF_167 {cA : Nat → ClassId} {bs : Nat} {sa : Nat → Nat} {E : Nat → va_E} : EF1 cA bs E 132 = ce cA (adF bs sa) I0 L0 (GRf 0) 167 := by
  unfold EF1 E_X11_init
  rw [upE_ne (by decide)]
  rw [E_X5_init_ne (by decide) (by decide)]
  rw [upE_ne (by decide)]
  rw [upE_ne (by decide)]
  unfold E_X2_init
  rw [upE_ne (by decide)]
  unfold E_X5_init
  unfold LpE
  rw [if_pos (by decide)]
  rfl
theorem eF_168 {cA : Nat → ClassId} {bs : Nat} {sa : Nat → Nat} {E : Nat → va_E} : EF1 cA bs E 133 = ce cA (adF bs sa) I0 L0 (GRf 0) 168 := by
  unfold EF1 E_X11_init
  rw [upE_ne (by decide)]
  rw [E_X5_init_ne (by decide) (by decide)]
  rw [upE_ne (by decide)]
  rw [upE_ne (by decide)]
  unfold E_X2_init
  rw [upE_ne (by decide)]
  unfold E_X5_init
  unfold LpE
  rw [if_pos (by decide)]
  rfl
theorem eF_169 {cA : Nat → ClassId} {bs : Nat} {sa : Nat → Nat} {E : Nat → va_E} : EF1 cA bs E 134 = ce cA (adF bs sa) I0 L0 (GRf 0) 169 := by
  unfold EF1 E_X11_init
  rw [upE_ne (by decide)]
  rw [E_X5_init_ne (by decide) (by decide)]
  rw [upE_ne (by decide)]
  rw [upE_ne (by decide)]
  unfold E_X2_init
  rw [upE_ne (by decide)]
  unfold E_X5_init
  unfold LpE
  rw [if_pos (by decide)]
  rfl
theorem eF_170 {cA : Nat → ClassId} {bs : Nat} {sa : Nat → Nat} {E : Nat → va_E} : EF1 cA bs E 135 = ce cA (adF bs sa) I0 L0 (GRf 0) 170 := by
  unfold EF1 E_X11_init
  rw [upE_ne (by decide)]
  rw [E_X5_init_ne (by decide) (by decide)]
  rw [upE_ne (by decide)]
  rw [upE_ne (by decide)]
  unfold E_X2_init
  rw [upE_ne (by decide)]
  unfold E_X5_init
  unfold LpE
  rw [if_pos (by decide)]
  rfl
theorem eF_171 {cA : Nat → ClassId} {bs : Nat} {sa : Nat → Nat} {E : Nat → va_E} : EF1 cA bs E 136 = ce cA (adF bs sa) I0 L0 (GRf 0) 171 := by
  unfold EF1 E_X11_init
  rw [upE_ne (by decide)]
  rw [E_X5_init_ne (by decide) (by decide)]
  rw [upE_ne (by decide)]
  rw [upE_ne (by decide)]
  unfold E_X2_init
  rw [upE_ne (by decide)]
  unfold E_X5_init
  unfold LpE
  rw [if_pos (by decide)]
  rfl
theorem eF_172 {cA : Nat → ClassId} {bs : Nat} {sa : Nat → Nat} {E : Nat → va_E} : EF1 cA bs E 106 = ce cA (adF bs sa) I0 L0 (GRf 0) 172 := by
  unfold EF1 E_X11_init
  rw [upE_ne (by decide)]
  rw [E_X5_init_ne (by decide) (by decide)]
  rw [upE_ne (by decide)]
  rw [upE_ne (by decide)]
  unfold E_X2_init
  rw [upE_ne (by decide)]
  unfold E_X5_init
  rw [LpE_ne (by decide) (by decide)]
  unfold E0_X5_init
  rw [upE_ne (by decide)]
  unfold E_X3_init
  rw [upE_eq (by decide)]
  rfl
theorem eF_173 {cA : Nat → ClassId} {bs : Nat} {sa : Nat → Nat} {E : Nat → va_E} : EF1 cA bs E 140 = ce cA (adF bs sa) I0 L0 (GRf 0) 173 := by
  unfold EF1 E_X11_init
  rw [upE_ne (by decide)]
  unfold E_X5_init
  unfold LpE
  rw [if_pos (by decide)]
  rfl
theorem eF_174 {cA : Nat → ClassId} {bs : Nat} {sa : Nat → Nat} {E : Nat → va_E} : EF1 cA bs E 141 = ce cA (adF bs sa) I0 L0 (GRf 0) 174 := by
  unfold EF1 E_X11_init
  rw [upE_ne (by decide)]
  unfold E_X5_init
  unfold LpE
  rw [if_pos (by decide)]
  rfl
theorem eF_175 {cA : Nat → ClassId} {bs : Nat} {sa : Nat → Nat} {E : Nat → va_E} : EF1 cA bs E 142 = ce cA (adF bs sa) I0 L0 (GRf 0) 175 := by
  unfold EF1 E_X11_init
  rw [upE_ne (by decide)]
  unfold E_X5_init
  unfold LpE
  rw [if_pos (by decide)]
  rfl
theorem eF_176 {cA : Nat → ClassId} {bs : Nat} {sa : Nat → Nat} {E : Nat → va_E} : EF1 cA bs E 143 = ce cA (adF bs sa) I0 L0 (GRf 0) 176 := by
  unfold EF1 E_X11_init
  rw [upE_ne (by decide)]
  unfold E_X5_init
  unfold LpE
  rw [if_pos (by decide)]
  rfl
theorem eF_177 {cA : Nat → ClassId} {bs : Nat} {sa : Nat → Nat} {E : Nat → va_E} : EF1 cA bs E 144 = ce cA (adF bs sa) I0 L0 (GRf 0) 177 := by
  unfold EF1 E_X11_init
  rw [upE_ne (by decide)]
  unfold E_X5_init
  unfold LpE
  rw [if_pos (by decide)]
  rfl
theorem eF_178 {cA : Nat → ClassId} {bs : Nat} {sa : Nat → Nat} {E : Nat → va_E} : EF1 cA bs E 145 = ce cA (adF bs sa) I0 L0 (GRf 0) 178 := by
  unfold EF1 E_X11_init
  rw [upE_ne (by decide)]
  unfold E_X5_init
  unfold LpE
  rw [if_pos (by decide)]
  rfl
theorem eF_179 {cA : Nat → ClassId} {bs : Nat} {sa : Nat → Nat} {E : Nat → va_E} : EF1 cA bs E 146 = ce cA (adF bs sa) I0 L0 (GRf 0) 179 := by
  unfold EF1 E_X11_init
  rw [upE_ne (by decide)]
  unfold E_X5_init
  unfold LpE
  rw [if_pos (by decide)]
  rfl
theorem eF_180 {cA : Nat → ClassId} {bs : Nat} {sa : Nat → Nat} {E : Nat → va_E} : EF1 cA bs E 147 = ce cA (adF bs sa) I0 L0 (GRf 0) 180 := by
  unfold EF1 E_X11_init
  rw [upE_ne (by decide)]
  unfold E_X5_init
  unfold LpE
  rw [if_pos (by decide)]
  rfl
theorem eF_181 {cA : Nat → ClassId} {bs : Nat} {sa : Nat → Nat} {E : Nat → va_E} : EF1 cA bs E 148 = ce cA (adF bs sa) I0 L0 (GRf 0) 181 := by
  unfold EF1 E_X11_init
  rw [upE_ne (by decide)]
  unfold E_X5_init
  unfold LpE
  rw [if_pos (by decide)]
  rfl
theorem eF_182 {cA : Nat → ClassId} {bs : Nat} {sa : Nat → Nat} {E : Nat → va_E} : EF1 cA bs E 149 = ce cA (adF bs sa) I0 L0 (GRf 0) 182 := by
  unfold EF1 E_X11_init
  rw [upE_ne (by decide)]
  unfold E_X5_init
  unfold LpE
  rw [if_pos (by decide)]
  rfl
theorem eF_183 {cA : Nat → ClassId} {bs : Nat} {sa : Nat → Nat} {E : Nat → va_E} : EF1 cA bs E 150 = ce cA (adF bs sa) I0 L0 (GRf 0) 183 := by
  unfold EF1 E_X11_init
  rw [upE_ne (by decide)]
  unfold E_X5_init
  unfold LpE
  rw [if_pos (by decide)]
  rfl
theorem eF_184 {cA : Nat → ClassId} {bs : Nat} {sa : Nat → Nat} {E : Nat → va_E} : EF1 cA bs E 151 = ce cA (adF bs sa) I0 L0 (GRf 0) 184 := by
  unfold EF1 E_X11_init
  rw [upE_ne (by decide)]
  unfold E_X5_init
  unfold LpE
  rw [if_pos (by decide)]
  rfl
theorem eF_185 {cA : Nat → ClassId} {bs : Nat} {sa : Nat → Nat} {E : Nat → va_E} : EF1 cA bs E 152 = ce cA (adF bs sa) I0 L0 (GRf 0) 185 := by
  unfold EF1 E_X11_init
  rw [upE_ne (by decide)]
  unfold E_X5_init
  unfold LpE
  rw [if_pos (by decide)]
  rfl
theorem eF_186 {cA : Nat → ClassId} {bs : Nat} {sa : Nat → Nat} {E : Nat → va_E} : EF1 cA bs E 153 = ce cA (adF bs sa) I0 L0 (GRf 0) 186 := by
  unfold EF1 E_X11_init
  rw [upE_ne (by decide)]
  unfold E_X5_init
  unfold LpE
  rw [if_pos (by decide)]
  rfl
theorem eF_187 {cA : Nat → ClassId} {bs : Nat} {sa : Nat → Nat} {E : Nat → va_E} : EF1 cA bs E 154 = ce cA (adF bs sa) I0 L0 (GRf 0) 187 := by
  unfold EF1 E_X11_init
  rw [upE_ne (by decide)]
  unfold E_X5_init
  unfold LpE
  rw [if_pos (by decide)]
  rfl
theorem eF_188 {cA : Nat → ClassId} {bs : Nat} {sa : Nat → Nat} {E : Nat → va_E} : EF1 cA bs E 155 = ce cA (adF bs sa) I0 L0 (GRf 0) 188 := by
  unfold EF1 E_X11_init
  rw [upE_ne (by decide)]
  unfold E_X5_init
  unfold LpE
  rw [if_pos (by decide)]
  rfl
theorem eF_189 {cA : Nat → ClassId} {bs : Nat} {sa : Nat → Nat} {E : Nat → va_E} : EF1 cA bs E 156 = ce cA (adF bs sa) I0 L0 (GRf 0) 189 := by
  unfold EF1 E_X11_init
  rw [upE_ne (by decide)]
  unfold E_X5_init
  unfold LpE
  rw [if_pos (by decide)]
  rfl
theorem eF_190 {cA : Nat → ClassId} {bs : Nat} {sa : Nat → Nat} {E : Nat → va_E} : EF1 cA bs E 157 = ce cA (adF bs sa) I0 L0 (GRf 0) 190 := by
  unfold EF1 E_X11_init
  rw [upE_ne (by decide)]
  unfold E_X5_init
  unfold LpE
  rw [if_pos (by decide)]
  rfl
theorem eF_191 {cA : Nat → ClassId} {bs : Nat} {sa : Nat → Nat} {E : Nat → va_E} : EF1 cA bs E 158 = ce cA (adF bs sa) I0 L0 (GRf 0) 191 := by
  unfold EF1 E_X11_init
  rw [upE_ne (by decide)]
  unfold E_X5_init
  unfold LpE
  rw [if_pos (by decide)]
  rfl
theorem eF_192 {cA : Nat → ClassId} {bs : Nat} {sa : Nat → Nat} {E : Nat → va_E} : EF1 cA bs E 159 = ce cA (adF bs sa) I0 L0 (GRf 0) 192 := by
  unfold EF1 E_X11_init
  rw [upE_ne (by decide)]
  unfold E_X5_init
  unfold LpE
  rw [if_pos (by decide)]
  rfl
theorem eF_193 {cA : Nat → ClassId} {bs : Nat} {sa : Nat → Nat} {E : Nat → va_E} : EF1 cA bs E 160 = ce cA (adF bs sa) I0 L0 (GRf 0) 193 := by
  unfold EF1 E_X11_init
  rw [upE_ne (by decide)]
  unfold E_X5_init
  unfold LpE
  rw [if_pos (by decide)]
  rfl
theorem eF_194 {cA : Nat → ClassId} {bs : Nat} {sa : Nat → Nat} {E : Nat → va_E} : EF1 cA bs E 161 = ce cA (adF bs sa) I0 L0 (GRf 0) 194 := by
  unfold EF1 E_X11_init
  rw [upE_ne (by decide)]
  unfold E_X5_init
  unfold LpE
  rw [if_pos (by decide)]
  rfl
theorem eF_195 {cA : Nat → ClassId} {bs : Nat} {sa : Nat → Nat} {E : Nat → va_E} : EF1 cA bs E 162 = ce cA (adF bs sa) I0 L0 (GRf 0) 195 := by
  unfold EF1 E_X11_init
  rw [upE_ne (by decide)]
  unfold E_X5_init
  unfold LpE
  rw [if_pos (by decide)]
  rfl
theorem eF_196 {cA : Nat → ClassId} {bs : Nat} {sa : Nat → Nat} {E : Nat → va_E} : EF1 cA bs E 163 = ce cA (adF bs sa) I0 L0 (GRf 0) 196 := by
  unfold EF1 E_X11_init
  rw [upE_ne (by decide)]
  unfold E_X5_init
  unfold LpE
  rw [if_pos (by decide)]
  rfl
theorem eF_197 {cA : Nat → ClassId} {bs : Nat} {sa : Nat → Nat} {E : Nat → va_E} : EF1 cA bs E 164 = ce cA (adF bs sa) I0 L0 (GRf 0) 197 := by
  unfold EF1 E_X11_init
  rw [upE_ne (by decide)]
  unfold E_X5_init
  unfold LpE
  rw [if_pos (by decide)]
  rfl
theorem eF_198 {cA : Nat → ClassId} {bs : Nat} {sa : Nat → Nat} {E : Nat → va_E} : EF1 cA bs E 165 = ce cA (adF bs sa) I0 L0 (GRf 0) 198 := by
  unfold EF1 E_X11_init
  rw [upE_ne (by decide)]
  unfold E_X5_init
  unfold LpE
  rw [if_pos (by decide)]
  rfl
theorem eF_199 {cA : Nat → ClassId} {bs : Nat} {sa : Nat → Nat} {E : Nat → va_E} : EF1 cA bs E 166 = ce cA (adF bs sa) I0 L0 (GRf 0) 199 := by
  unfold EF1 E_X11_init
  rw [upE_ne (by decide)]
  unfold E_X5_init
  unfold LpE
  rw [if_pos (by decide)]
  rfl
theorem eF_200 {cA : Nat → ClassId} {bs : Nat} {sa : Nat → Nat} {E : Nat → va_E} : EF1 cA bs E 167 = ce cA (adF bs sa) I0 L0 (GRf 0) 200 := by
  unfold EF1 E_X11_init
  rw [upE_ne (by decide)]
  unfold E_X5_init
  unfold LpE
  rw [if_pos (by decide)]
  rfl
theorem eF_201 {cA : Nat → ClassId} {bs : Nat} {sa : Nat → Nat} {E : Nat → va_E} : EF1 cA bs E 168 = ce cA (adF bs sa) I0 L0 (GRf 0) 201 := by
  unfold EF1 E_X11_init
  rw [upE_ne (by decide)]
  unfold E_X5_init
  unfold LpE
  rw [if_pos (by decide)]
  rfl
theorem eF_202 {cA : Nat → ClassId} {bs : Nat} {sa : Nat → Nat} {E : Nat → va_E} : EF1 cA bs E 169 = ce cA (adF bs sa) I0 L0 (GRf 0) 202 := by
  unfold EF1 E_X11_init
  rw [upE_ne (by decide)]
  unfold E_X5_init
  unfold LpE
  rw [if_pos (by decide)]
  rfl
theorem eF_203 {cA : Nat → ClassId} {bs : Nat} {sa : Nat → Nat} {E : Nat → va_E} : EF1 cA bs E 139 = ce cA (adF bs sa) I0 L0 (GRf 0) 203 := by
  unfold EF1 E_X11_init
  rw [upE_ne (by decide)]
  unfold E_X5_init
  rw [LpE_ne (by decide) (by decide)]
  unfold E0_X5_init
  rw [upE_ne (by decide)]
  unfold E_X3_init
  rw [upE_eq (by decide)]
  rfl
theorem EM1_hi {cA : Nat → ClassId} {bs k p j : Nat} {E : Nat → va_E} (h : j ≠ p) (hj : j < k + 0) : EM1 cA bs k p E j = EM0 cA bs k p E j := by
  unfold EM1
  repeat rw [upE_ne (by omega)]
theorem EM2_hi {cA : Nat → ClassId} {bs k p j : Nat} {E : Nat → va_E} (h : j ≠ p) (hj : j < k + 4) : EM2 cA bs k p E j = EM1 cA bs k p E j := by
  unfold EM2
  repeat rw [upE_ne (by omega)]
theorem EM3_hi {cA : Nat → ClassId} {bs k p j : Nat} {E : Nat → va_E} (h : j ≠ p) (hj : j < k + 7) : EM3 cA bs k p E j = EM2 cA bs k p E j := by
  unfold EM3
  repeat rw [upE_ne (by omega)]
theorem EM4_hi {cA : Nat → ClassId} {bs k p j : Nat} {E : Nat → va_E} (h : j ≠ p) (hj : j < k + 11) : EM4 cA bs k p E j = EM3 cA bs k p E j := by
  unfold EM4
  repeat rw [upE_ne (by omega)]
theorem EM5_hi {cA : Nat → ClassId} {bs k p j : Nat} {E : Nat → va_E} (h : j ≠ p) (hj : j < k + 15) : EM5 cA bs k p E j = EM4 cA bs k p E j := by
  unfold EM5
  repeat rw [upE_ne (by omega)]
theorem EM6_hi {cA : Nat → ClassId} {bs k p j : Nat} {E : Nat → va_E} (h : j ≠ p) (hj : j < k + 19) : EM6 cA bs k p E j = EM5 cA bs k p E j := by
  unfold EM6
  repeat rw [upE_ne (by omega)]
theorem EM7_hi {cA : Nat → ClassId} {bs k p j : Nat} {E : Nat → va_E} (h : j ≠ p) (hj : j < k + 23) : EM7 cA bs k p E j = EM6 cA bs k p E j := by
  unfold EM7
  repeat rw [upE_ne (by omega)]
theorem EM8_hi {cA : Nat → ClassId} {bs k p j : Nat} {E : Nat → va_E} (h : j ≠ p) (hj : j < k + 27) : EM8 cA bs k p E j = EM7 cA bs k p E j := by
  unfold EM8
  repeat rw [upE_ne (by omega)]
theorem EM9_hi {cA : Nat → ClassId} {bs k p j : Nat} {E : Nat → va_E} (h : j ≠ p) (hj : j < k + 31) : EM9 cA bs k p E j = EM8 cA bs k p E j := by
  unfold EM9
  repeat rw [upE_ne (by omega)]
theorem eF_25 {cA : Nat → ClassId} {bs : Nat} {sa : Nat → Nat} {E : Nat → va_E} : E_X12_init cA bs 171 170 E 171 = ce cA (adF bs sa) I0 L0 (GRf 0) 25 := by
  unfold E_X12_init
  rw [EM9_hi (by decide) (by decide)]
  rw [EM8_hi (by decide) (by decide)]
  rw [EM7_hi (by decide) (by decide)]
  rw [EM6_hi (by decide) (by decide)]
  rw [EM5_hi (by decide) (by decide)]
  rw [EM4_hi (by decide) (by decide)]
  rw [EM3_hi (by decide) (by decide)]
  rw [EM2_hi (by decide) (by decide)]
  unfold EM1
  repeat rw [upE_ne (by decide)]
  rw [upE_eq (by decide)]
  rfl
theorem eF_26 {cA : Nat → ClassId} {bs : Nat} {sa : Nat → Nat} {E : Nat → va_E} : E_X12_init cA bs 171 170 E 172 = ce cA (adF bs sa) I0 L0 (GRf 0) 26 := by
  unfold E_X12_init
  rw [EM9_hi (by decide) (by decide)]
  rw [EM8_hi (by decide) (by decide)]
  rw [EM7_hi (by decide) (by decide)]
  rw [EM6_hi (by decide) (by decide)]
  rw [EM5_hi (by decide) (by decide)]
  rw [EM4_hi (by decide) (by decide)]
  rw [EM3_hi (by decide) (by decide)]
  rw [EM2_hi (by decide) (by decide)]
  unfold EM1
  repeat rw [upE_ne (by decide)]
  rw [upE_eq (by decide)]
  rfl
theorem eF_27 {cA : Nat → ClassId} {bs : Nat} {sa : Nat → Nat} {E : Nat → va_E} : E_X12_init cA bs 171 170 E 173 = ce cA (adF bs sa) I0 L0 (GRf 0) 27 := by
  unfold E_X12_init
  rw [EM9_hi (by decide) (by decide)]
  rw [EM8_hi (by decide) (by decide)]
  rw [EM7_hi (by decide) (by decide)]
  rw [EM6_hi (by decide) (by decide)]
  rw [EM5_hi (by decide) (by decide)]
  rw [EM4_hi (by decide) (by decide)]
  rw [EM3_hi (by decide) (by decide)]
  rw [EM2_hi (by decide) (by decide)]
  unfold EM1
  repeat rw [upE_ne (by decide)]
  rw [upE_eq (by decide)]
  rfl
theorem eF_28 {cA : Nat → ClassId} {bs : Nat} {sa : Nat → Nat} {E : Nat → va_E} : E_X12_init cA bs 171 170 E 174 = ce cA (adF bs sa) I0 L0 (GRf 0) 28 := by
  unfold E_X12_init
  rw [EM9_hi (by decide) (by decide)]
  rw [EM8_hi (by decide) (by decide)]
  rw [EM7_hi (by decide) (by decide)]
  rw [EM6_hi (by decide) (by decide)]
  rw [EM5_hi (by decide) (by decide)]
  rw [EM4_hi (by decide) (by decide)]
  rw [EM3_hi (by decide) (by decide)]
  rw [EM2_hi (by decide) (by decide)]
  unfold EM1
  repeat rw [upE_ne (by decide)]
  rw [upE_eq (by decide)]
  rfl
theorem eF_29 {cA : Nat → ClassId} {bs : Nat} {sa : Nat → Nat} {E : Nat → va_E} : E_X12_init cA bs 171 170 E 175 = ce cA (adF bs sa) I0 L0 (GRf 0) 29 := by
  unfold E_X12_init
  rw [EM9_hi (by decide) (by decide)]
  rw [EM8_hi (by decide) (by decide)]
  rw [EM7_hi (by decide) (by decide)]
  rw [EM6_hi (by decide) (by decide)]
  rw [EM5_hi (by decide) (by decide)]
  rw [EM4_hi (by decide) (by decide)]
  rw [EM3_hi (by decide) (by decide)]
  unfold EM2
  repeat rw [upE_ne (by decide)]
  rw [upE_eq (by decide)]
  rfl
theorem eF_30 {cA : Nat → ClassId} {bs : Nat} {sa : Nat → Nat} {E : Nat → va_E} : E_X12_init cA bs 171 170 E 176 = ce cA (adF bs sa) I0 L0 (GRf 0) 30 := by
  unfold E_X12_init
  rw [EM9_hi (by decide) (by decide)]
  rw [EM8_hi (by decide) (by decide)]
  rw [EM7_hi (by decide) (by decide)]
  rw [EM6_hi (by decide) (by decide)]
  rw [EM5_hi (by decide) (by decide)]
  rw [EM4_hi (by decide) (by decide)]
  rw [EM3_hi (by decide) (by decide)]
  unfold EM2
  repeat rw [upE_ne (by decide)]
  rw [upE_eq (by decide)]
  rfl
theorem eF_31 {cA : Nat → ClassId} {bs : Nat} {sa : Nat → Nat} {E : Nat → va_E} : E_X12_init cA bs 171 170 E 177 = ce cA (adF bs sa) I0 L0 (GRf 0) 31 := by
  unfold E_X12_init
  rw [EM9_hi (by decide) (by decide)]
  rw [EM8_hi (by decide) (by decide)]
  rw [EM7_hi (by decide) (by decide)]
  rw [EM6_hi (by decide) (by decide)]
  rw [EM5_hi (by decide) (by decide)]
  rw [EM4_hi (by decide) (by decide)]
  rw [EM3_hi (by decide) (by decide)]
  unfold EM2
  repeat rw [upE_ne (by decide)]
  rw [upE_eq (by decide)]
  rfl
theorem eF_32 {cA : Nat → ClassId} {bs : Nat} {sa : Nat → Nat} {E : Nat → va_E} : E_X12_init cA bs 171 170 E 178 = ce cA (adF bs sa) I0 L0 (GRf 0) 32 := by
  unfold E_X12_init
  rw [EM9_hi (by decide) (by decide)]
  rw [EM8_hi (by decide) (by decide)]
  rw [EM7_hi (by decide) (by decide)]
  rw [EM6_hi (by decide) (by decide)]
  rw [EM5_hi (by decide) (by decide)]
  rw [EM4_hi (by decide) (by decide)]
  unfold EM3
  repeat rw [upE_ne (by decide)]
  rw [upE_eq (by decide)]
  rfl
theorem eF_33 {cA : Nat → ClassId} {bs : Nat} {sa : Nat → Nat} {E : Nat → va_E} : E_X12_init cA bs 171 170 E 179 = ce cA (adF bs sa) I0 L0 (GRf 0) 33 := by
  unfold E_X12_init
  rw [EM9_hi (by decide) (by decide)]
  rw [EM8_hi (by decide) (by decide)]
  rw [EM7_hi (by decide) (by decide)]
  rw [EM6_hi (by decide) (by decide)]
  rw [EM5_hi (by decide) (by decide)]
  rw [EM4_hi (by decide) (by decide)]
  unfold EM3
  repeat rw [upE_ne (by decide)]
  rw [upE_eq (by decide)]
  rfl
theorem eF_34 {cA : Nat → ClassId} {bs : Nat} {sa : Nat → Nat} {E : Nat → va_E} : E_X12_init cA bs 171 170 E 180 = ce cA (adF bs sa) I0 L0 (GRf 0) 34 := by
  unfold E_X12_init
  rw [EM9_hi (by decide) (by decide)]
  rw [EM8_hi (by decide) (by decide)]
  rw [EM7_hi (by decide) (by decide)]
  rw [EM6_hi (by decide) (by decide)]
  rw [EM5_hi (by decide) (by decide)]
  rw [EM4_hi (by decide) (by decide)]
  unfold EM3
  repeat rw [upE_ne (by decide)]
  rw [upE_eq (by decide)]
  rfl
theorem eF_35 {cA : Nat → ClassId} {bs : Nat} {sa : Nat → Nat} {E : Nat → va_E} : E_X12_init cA bs 171 170 E 181 = ce cA (adF bs sa) I0 L0 (GRf 0) 35 := by
  unfold E_X12_init
  rw [EM9_hi (by decide) (by decide)]
  rw [EM8_hi (by decide) (by decide)]
  rw [EM7_hi (by decide) (by decide)]
  rw [EM6_hi (by decide) (by decide)]
  rw [EM5_hi (by decide) (by decide)]
  rw [EM4_hi (by decide) (by decide)]
  unfold EM3
  repeat rw [upE_ne (by decide)]
  rw [upE_eq (by decide)]
  rfl
theorem eF_36 {cA : Nat → ClassId} {bs : Nat} {sa : Nat → Nat} {E : Nat → va_E} : E_X12_init cA bs 171 170 E 182 = ce cA (adF bs sa) I0 L0 (GRf 0) 36 := by
  unfold E_X12_init
  rw [EM9_hi (by decide) (by decide)]
  rw [EM8_hi (by decide) (by decide)]
  rw [EM7_hi (by decide) (by decide)]
  rw [EM6_hi (by decide) (by decide)]
  rw [EM5_hi (by decide) (by decide)]
  unfold EM4
  repeat rw [upE_ne (by decide)]
  rw [upE_eq (by decide)]
  rfl
theorem eF_37 {cA : Nat → ClassId} {bs : Nat} {sa : Nat → Nat} {E : Nat → va_E} : E_X12_init cA bs 171 170 E 183 = ce cA (adF bs sa) I0 L0 (GRf 0) 37 := by
  unfold E_X12_init
  rw [EM9_hi (by decide) (by decide)]
  rw [EM8_hi (by decide) (by decide)]
  rw [EM7_hi (by decide) (by decide)]
  rw [EM6_hi (by decide) (by decide)]
  rw [EM5_hi (by decide) (by decide)]
  unfold EM4
  repeat rw [upE_ne (by decide)]
  rw [upE_eq (by decide)]
  rfl
theorem eF_38 {cA : Nat → ClassId} {bs : Nat} {sa : Nat → Nat} {E : Nat → va_E} : E_X12_init cA bs 171 170 E 184 = ce cA (adF bs sa) I0 L0 (GRf 0) 38 := by
  unfold E_X12_init
  rw [EM9_hi (by decide) (by decide)]
  rw [EM8_hi (by decide) (by decide)]
  rw [EM7_hi (by decide) (by decide)]
  rw [EM6_hi (by decide) (by decide)]
  rw [EM5_hi (by decide) (by decide)]
  unfold EM4
  repeat rw [upE_ne (by decide)]
  rw [upE_eq (by decide)]
  rfl
theorem eF_39 {cA : Nat → ClassId} {bs : Nat} {sa : Nat → Nat} {E : Nat → va_E} : E_X12_init cA bs 171 170 E 185 = ce cA (adF bs sa) I0 L0 (GRf 0) 39 := by
  unfold E_X12_init
  rw [EM9_hi (by decide) (by decide)]
  rw [EM8_hi (by decide) (by decide)]
  rw [EM7_hi (by decide) (by decide)]
  rw [EM6_hi (by decide) (by decide)]
  rw [EM5_hi (by decide) (by decide)]
  unfold EM4
  repeat rw [upE_ne (by decide)]
  rw [upE_eq (by decide)]
  rfl
theorem eF_40 {cA : Nat → ClassId} {bs : Nat} {sa : Nat → Nat} {E : Nat → va_E} : E_X12_init cA bs 171 170 E 186 = ce cA (adF bs sa) I0 L0 (GRf 0) 40 := by
  unfold E_X12_init
  rw [EM9_hi (by decide) (by decide)]
  rw [EM8_hi (by decide) (by decide)]
  rw [EM7_hi (by decide) (by decide)]
  rw [EM6_hi (by decide) (by decide)]
  unfold EM5
  repeat rw [upE_ne (by decide)]
  rw [upE_eq (by decide)]
  rfl
theorem eF_41 {cA : Nat → ClassId} {bs : Nat} {sa : Nat → Nat} {E : Nat → va_E} : E_X12_init cA bs 171 170 E 187 = ce cA (adF bs sa) I0 L0 (GRf 0) 41 := by
  unfold E_X12_init
  rw [EM9_hi (by decide) (by decide)]
  rw [EM8_hi (by decide) (by decide)]
  rw [EM7_hi (by decide) (by decide)]
  rw [EM6_hi (by decide) (by decide)]
  unfold EM5
  repeat rw [upE_ne (by decide)]
  rw [upE_eq (by decide)]
  rfl
theorem eF_42 {cA : Nat → ClassId} {bs : Nat} {sa : Nat → Nat} {E : Nat → va_E} : E_X12_init cA bs 171 170 E 188 = ce cA (adF bs sa) I0 L0 (GRf 0) 42 := by
  unfold E_X12_init
  rw [EM9_hi (by decide) (by decide)]
  rw [EM8_hi (by decide) (by decide)]
  rw [EM7_hi (by decide) (by decide)]
  rw [EM6_hi (by decide) (by decide)]
  unfold EM5
  repeat rw [upE_ne (by decide)]
  rw [upE_eq (by decide)]
  rfl
theorem eF_43 {cA : Nat → ClassId} {bs : Nat} {sa : Nat → Nat} {E : Nat → va_E} : E_X12_init cA bs 171 170 E 189 = ce cA (adF bs sa) I0 L0 (GRf 0) 43 := by
  unfold E_X12_init
  rw [EM9_hi (by decide) (by decide)]
  rw [EM8_hi (by decide) (by decide)]
  rw [EM7_hi (by decide) (by decide)]
  rw [EM6_hi (by decide) (by decide)]
  unfold EM5
  repeat rw [upE_ne (by decide)]
  rw [upE_eq (by decide)]
  rfl
theorem eF_44 {cA : Nat → ClassId} {bs : Nat} {sa : Nat → Nat} {E : Nat → va_E} : E_X12_init cA bs 171 170 E 190 = ce cA (adF bs sa) I0 L0 (GRf 0) 44 := by
  unfold E_X12_init
  rw [EM9_hi (by decide) (by decide)]
  rw [EM8_hi (by decide) (by decide)]
  rw [EM7_hi (by decide) (by decide)]
  unfold EM6
  repeat rw [upE_ne (by decide)]
  rw [upE_eq (by decide)]
  rfl
theorem eF_45 {cA : Nat → ClassId} {bs : Nat} {sa : Nat → Nat} {E : Nat → va_E} : E_X12_init cA bs 171 170 E 191 = ce cA (adF bs sa) I0 L0 (GRf 0) 45 := by
  unfold E_X12_init
  rw [EM9_hi (by decide) (by decide)]
  rw [EM8_hi (by decide) (by decide)]
  rw [EM7_hi (by decide) (by decide)]
  unfold EM6
  repeat rw [upE_ne (by decide)]
  rw [upE_eq (by decide)]
  rfl
theorem eF_46 {cA : Nat → ClassId} {bs : Nat} {sa : Nat → Nat} {E : Nat → va_E} : E_X12_init cA bs 171 170 E 192 = ce cA (adF bs sa) I0 L0 (GRf 0) 46 := by
  unfold E_X12_init
  rw [EM9_hi (by decide) (by decide)]
  rw [EM8_hi (by decide) (by decide)]
  rw [EM7_hi (by decide) (by decide)]
  unfold EM6
  repeat rw [upE_ne (by decide)]
  rw [upE_eq (by decide)]
  rfl
theorem eF_47 {cA : Nat → ClassId} {bs : Nat} {sa : Nat → Nat} {E : Nat → va_E} : E_X12_init cA bs 171 170 E 193 = ce cA (adF bs sa) I0 L0 (GRf 0) 47 := by
  unfold E_X12_init
  rw [EM9_hi (by decide) (by decide)]
  rw [EM8_hi (by decide) (by decide)]
  rw [EM7_hi (by decide) (by decide)]
  unfold EM6
  repeat rw [upE_ne (by decide)]
  rw [upE_eq (by decide)]
  rfl
theorem eF_48 {cA : Nat → ClassId} {bs : Nat} {sa : Nat → Nat} {E : Nat → va_E} : E_X12_init cA bs 171 170 E 194 = ce cA (adF bs sa) I0 L0 (GRf 0) 48 := by
  unfold E_X12_init
  rw [EM9_hi (by decide) (by decide)]
  rw [EM8_hi (by decide) (by decide)]
  unfold EM7
  repeat rw [upE_ne (by decide)]
  rw [upE_eq (by decide)]
  rfl
theorem eF_49 {cA : Nat → ClassId} {bs : Nat} {sa : Nat → Nat} {E : Nat → va_E} : E_X12_init cA bs 171 170 E 195 = ce cA (adF bs sa) I0 L0 (GRf 0) 49 := by
  unfold E_X12_init
  rw [EM9_hi (by decide) (by decide)]
  rw [EM8_hi (by decide) (by decide)]
  unfold EM7
  repeat rw [upE_ne (by decide)]
  rw [upE_eq (by decide)]
  rfl
theorem eF_50 {cA : Nat → ClassId} {bs : Nat} {sa : Nat → Nat} {E : Nat → va_E} : E_X12_init cA bs 171 170 E 196 = ce cA (adF bs sa) I0 L0 (GRf 0) 50 := by
  unfold E_X12_init
  rw [EM9_hi (by decide) (by decide)]
  rw [EM8_hi (by decide) (by decide)]
  unfold EM7
  repeat rw [upE_ne (by decide)]
  rw [upE_eq (by decide)]
  rfl
theorem eF_51 {cA : Nat → ClassId} {bs : Nat} {sa : Nat → Nat} {E : Nat → va_E} : E_X12_init cA bs 171 170 E 197 = ce cA (adF bs sa) I0 L0 (GRf 0) 51 := by
  unfold E_X12_init
  rw [EM9_hi (by decide) (by decide)]
  rw [EM8_hi (by decide) (by decide)]
  unfold EM7
  repeat rw [upE_ne (by decide)]
  rw [upE_eq (by decide)]
  rfl
theorem eF_52 {cA : Nat → ClassId} {bs : Nat} {sa : Nat → Nat} {E : Nat → va_E} : E_X12_init cA bs 171 170 E 198 = ce cA (adF bs sa) I0 L0 (GRf 0) 52 := by
  unfold E_X12_init
  rw [EM9_hi (by decide) (by decide)]
  unfold EM8
  repeat rw [upE_ne (by decide)]
  rw [upE_eq (by decide)]
  rfl
theorem eF_53 {cA : Nat → ClassId} {bs : Nat} {sa : Nat → Nat} {E : Nat → va_E} : E_X12_init cA bs 171 170 E 199 = ce cA (adF bs sa) I0 L0 (GRf 0) 53 := by
  unfold E_X12_init
  rw [EM9_hi (by decide) (by decide)]
  unfold EM8
  repeat rw [upE_ne (by decide)]
  rw [upE_eq (by decide)]
  rfl
theorem eF_54 {cA : Nat → ClassId} {bs : Nat} {sa : Nat → Nat} {E : Nat → va_E} : E_X12_init cA bs 171 170 E 200 = ce cA (adF bs sa) I0 L0 (GRf 0) 54 := by
  unfold E_X12_init
  rw [EM9_hi (by decide) (by decide)]
  unfold EM8
  repeat rw [upE_ne (by decide)]
  rw [upE_eq (by decide)]
  rfl
theorem eF_55 {cA : Nat → ClassId} {bs : Nat} {sa : Nat → Nat} {E : Nat → va_E} : E_X12_init cA bs 171 170 E 201 = ce cA (adF bs sa) I0 L0 (GRf 0) 55 := by
  unfold E_X12_init
  rw [EM9_hi (by decide) (by decide)]
  unfold EM8
  repeat rw [upE_ne (by decide)]
  rw [upE_eq (by decide)]
  rfl
theorem eF_56 {cA : Nat → ClassId} {bs : Nat} {sa : Nat → Nat} {E : Nat → va_E} : E_X12_init cA bs 171 170 E 202 = ce cA (adF bs sa) I0 L0 (GRf 0) 56 := by
  unfold E_X12_init
  unfold EM9
  repeat rw [upE_ne (by decide)]
  rw [upE_eq (by decide)]
  rfl
set_option maxRecDepth 100000 in
theorem fsMx_0 {bs k : Nat} : fsM0 bs k = [.null, .null, .null, .null, .null, .int 0, .null, .int 0, .null, .int 0, .int 0, .int 0, .int 0, .int 0, .int 0, .int 0, .int 0, .int 0, .null, .null, .null, .int 0, .null, .null, .null, .int 0, .int 0, .int 0, .int 0, .null, .null, .null, .null, .null, .int 0, .int 0, .null, .null, .null, .int 0, .int 0, .int 0, .int 0, .int 0, .int 0, .int 0, .int 0, .int 0, .int 0, .int 0, .int 0, .null, .null, .int 0, .int 0, .null, .null, .null, .null, .null, .null, .null, .null, .null] := by
  rfl
set_option maxRecDepth 100000 in
theorem fsMx_1 {bs k : Nat} : fsM1 bs k = [.ref (bs + (k + 0)), .ref (bs + (k + 1)), .ref (bs + (k + 2)), .ref (bs + (k + 3)), .null, .int 0, .null, .int 0, .null, .int 0, .int 0, .int 0, .int 0, .int 0, .int 0, .int 0, .int 0, .int 0, .null, .null, .null, .int 0, .null, .null, .null, .int 0, .int 0, .int 0, .int 0, .null, .null, .null, .null, .null, .int 0, .int 0, .null, .null, .null, .int 0, .int 0, .int 0, .int 0, .int 0, .int 0, .int 0, .int 0, .int 0, .int 0, .int 0, .int 0, .null, .null, .int 0, .int 0, .null, .null, .null, .null, .null, .null, .null, .null, .null] := by
  unfold fsM1
  rw [fsMx_0]
  rfl
set_option maxRecDepth 100000 in
theorem fsMx_2 {bs k : Nat} : fsM2 bs k = [.ref (bs + (k + 0)), .ref (bs + (k + 1)), .ref (bs + (k + 2)), .ref (bs + (k + 3)), .ref (bs + (k + 4)), .int 0, .ref (bs + (k + 5)), .int 0, .ref (bs + (k + 6)), .int 0, .int 0, .int 0, .int 0, .int 0, .int 0, .int 0, .int (-1), .int 0, .null, .null, .null, .int 0, .null, .null, .null, .int 0, .int 0, .int 0, .int 0, .null, .null, .null, .null, .null, .int 0, .int 0, .null, .null, .null, .int 0, .int 0, .int 0, .int 0, .int 0, .int 0, .int 0, .int 0, .int 0, .int 0, .int 0, .int 0, .null, .null, .int 0, .int 0, .null, .null, .null, .null, .null, .null, .null, .null, .null] := by
  unfold fsM2
  rw [fsMx_1]
  rfl
set_option maxRecDepth 100000 in
theorem fsMx_3 {bs k : Nat} : fsM3 bs k = [.ref (bs + (k + 0)), .ref (bs + (k + 1)), .ref (bs + (k + 2)), .ref (bs + (k + 3)), .ref (bs + (k + 4)), .int 0, .ref (bs + (k + 5)), .int 0, .ref (bs + (k + 6)), .int 0, .int 0, .int 0, .int 0, .int 0, .int 0, .int 0, .int (-1), .int 0, .ref (bs + (k + 7)), .ref (bs + (k + 8)), .ref (bs + (k + 9)), .int 0, .ref (bs + (k + 10)), .null, .null, .int 0, .int 0, .int 0, .int 0, .null, .null, .null, .null, .null, .int 0, .int 0, .null, .null, .null, .int 0, .int 0, .int 0, .int 0, .int 0, .int 0, .int 0, .int 0, .int 0, .int 0, .int 0, .int 0, .null, .null, .int 0, .int 0, .null, .null, .null, .null, .null, .null, .null, .null, .null] := by
  unfold fsM3
  rw [fsMx_2]
  rfl
set_option maxRecDepth 100000 in
theorem fsMx_4 {bs k : Nat} : fsM4 bs k = [.ref (bs + (k + 0)), .ref (bs + (k + 1)), .ref (bs + (k + 2)), .ref (bs + (k + 3)), .ref (bs + (k + 4)), .int 0, .ref (bs + (k + 5)), .int 0, .ref (bs + (k + 6)), .int 0, .int 0, .int 0, .int 0, .int 0, .int 0, .int 0, .int (-1), .int 0, .ref (bs + (k + 7)), .ref (bs + (k + 8)), .ref (bs + (k + 9)), .int 0, .ref (bs + (k + 10)), .ref (bs + (k + 11)), .ref (bs + (k + 12)), .int 0, .int 0, .int 0, .int 0, .ref (bs + (k + 13)), .ref (bs + (k + 14)), .null, .null, .null, .int 0, .int 0, .null, .null, .null, .int 0, .int 0, .int 0, .int 0, .int 0, .int 0, .int 0, .int 0, .int 0, .int 0, .int 0, .int 0, .null, .null, .int 0, .int 0, .null, .null, .null, .null, .null, .null, .null, .null, .null] := by
  unfold fsM4
  rw [fsMx_3]
  rfl
set_option maxRecDepth 100000 in
theorem fsMx_5 {bs k : Nat} : fsM5 bs k = [.ref (bs + (k + 0)), .ref (bs + (k + 1)), .ref (bs + (k + 2)), .ref (bs + (k + 3)), .ref (bs + (k + 4)), .int 0, .ref (bs + (k + 5)), .int 0, .ref (bs + (k + 6)), .int 0, .int 0, .int 0, .int 0, .int 0, .int 0, .int 0, .int (-1), .int 0, .ref (bs + (k + 7)), .ref (bs + (k + 8)), .ref (bs + (k + 9)), .int 0, .ref (bs + (k + 10)), .ref (bs + (k + 11)), .ref (bs + (k + 12)), .int 0, .int 0, .int 0, .int 0, .ref (bs + (k + 13)), .ref (bs + (k + 14)), .ref (bs + (k + 15)), .ref (bs + (k + 16)), .ref (bs + (k + 17)), .int 0, .int 0, .ref (bs + (k + 18)), .null, .null, .int 0, .int 0, .int 0, .int 0, .int 0, .int 0, .int 0, .int 0, .int 0, .int 0, .int 0, .int 0, .null, .null, .int 0, .int 0, .null, .null, .null, .null, .null, .null, .null, .null, .null] := by
  unfold fsM5
  rw [fsMx_4]
  rfl
set_option maxRecDepth 100000 in
theorem fsMx_6 {bs k : Nat} : fsM6 bs k = [.ref (bs + (k + 0)), .ref (bs + (k + 1)), .ref (bs + (k + 2)), .ref (bs + (k + 3)), .ref (bs + (k + 4)), .int 0, .ref (bs + (k + 5)), .int 0, .ref (bs + (k + 6)), .int 0, .int 0, .int 0, .int 0, .int 0, .int 0, .int 0, .int (-1), .int 0, .ref (bs + (k + 7)), .ref (bs + (k + 8)), .ref (bs + (k + 9)), .int 0, .ref (bs + (k + 10)), .ref (bs + (k + 11)), .ref (bs + (k + 12)), .int 0, .int 0, .int 0, .int 0, .ref (bs + (k + 13)), .ref (bs + (k + 14)), .ref (bs + (k + 15)), .ref (bs + (k + 16)), .ref (bs + (k + 17)), .int 0, .int 0, .ref (bs + (k + 18)), .ref (bs + (k + 19)), .ref (bs + (k + 20)), .int 0, .int 0, .int 0, .int 0, .int 0, .int 0, .int 0, .int 0, .int 0, .int 0, .int 0, .int 0, .ref (bs + (k + 21)), .ref (bs + (k + 22)), .int 0, .int 0, .null, .null, .null, .null, .null, .null, .null, .null, .null] := by
  unfold fsM6
  rw [fsMx_5]
  rfl
set_option maxRecDepth 100000 in
theorem fsMx_7 {bs k : Nat} : fsM7 bs k = [.ref (bs + (k + 0)), .ref (bs + (k + 1)), .ref (bs + (k + 2)), .ref (bs + (k + 3)), .ref (bs + (k + 4)), .int 0, .ref (bs + (k + 5)), .int 0, .ref (bs + (k + 6)), .int 0, .int 0, .int 0, .int 0, .int 0, .int 0, .int 0, .int (-1), .int 0, .ref (bs + (k + 7)), .ref (bs + (k + 8)), .ref (bs + (k + 9)), .int 0, .ref (bs + (k + 10)), .ref (bs + (k + 11)), .ref (bs + (k + 12)), .int 0, .int 0, .int 0, .int 0, .ref (bs + (k + 13)), .ref (bs + (k + 14)), .ref (bs + (k + 15)), .ref (bs + (k + 16)), .ref (bs + (k + 17)), .int 0, .int 0, .ref (bs + (k + 18)), .ref (bs + (k + 19)), .ref (bs + (k + 20)), .int 0, .int 0, .int 0, .int 0, .int 0, .int 0, .int 0, .int 0, .int 0, .int 0, .int 0, .int 0, .ref (bs + (k + 21)), .ref (bs + (k + 22)), .int 0, .int 0, .ref (bs + (k + 23)), .ref (bs + (k + 24)), .ref (bs + (k + 25)), .ref (bs + (k + 26)), .null, .null, .null, .null, .null] := by
  unfold fsM7
  rw [fsMx_6]
  rfl
set_option maxRecDepth 100000 in
theorem fsMx_8 {bs k : Nat} : fsM8 bs k = [.ref (bs + (k + 0)), .ref (bs + (k + 1)), .ref (bs + (k + 2)), .ref (bs + (k + 3)), .ref (bs + (k + 4)), .int 0, .ref (bs + (k + 5)), .int 0, .ref (bs + (k + 6)), .int 0, .int 0, .int 0, .int 0, .int 0, .int 0, .int 0, .int (-1), .int 0, .ref (bs + (k + 7)), .ref (bs + (k + 8)), .ref (bs + (k + 9)), .int 0, .ref (bs + (k + 10)), .ref (bs + (k + 11)), .ref (bs + (k + 12)), .int 0, .int 0, .int 0, .int 0, .ref (bs + (k + 13)), .ref (bs + (k + 14)), .ref (bs + (k + 15)), .ref (bs + (k + 16)), .ref (bs + (k + 17)), .int 0, .int 0, .ref (bs + (k + 18)), .ref (bs + (k + 19)), .ref (bs + (k + 20)), .int 0, .int 0, .int 0, .int 0, .int 0, .int 0, .int 0, .int 0, .int 0, .int 0, .int 0, .int 0, .ref (bs + (k + 21)), .ref (bs + (k + 22)), .int 0, .int 0, .ref (bs + (k + 23)), .ref (bs + (k + 24)), .ref (bs + (k + 25)), .ref (bs + (k + 26)), .ref (bs + (k + 27)), .ref (bs + (k + 28)), .ref (bs + (k + 29)), .ref (bs + (k + 30)), .null] := by
  unfold fsM8
  rw [fsMx_7]
  rfl
set_option maxRecDepth 100000 in
theorem fsMx_9 {bs k : Nat} : fsM9 bs k = [.ref (bs + (k + 0)), .ref (bs + (k + 1)), .ref (bs + (k + 2)), .ref (bs + (k + 3)), .ref (bs + (k + 4)), .int 0, .ref (bs + (k + 5)), .int 0, .ref (bs + (k + 6)), .int 0, .int 0, .int 0, .int 0, .int 0, .int 0, .int 0, .int (-1), .int 0, .ref (bs + (k + 7)), .ref (bs + (k + 8)), .ref (bs + (k + 9)), .int 0, .ref (bs + (k + 10)), .ref (bs + (k + 11)), .ref (bs + (k + 12)), .int 0, .int 0, .int 0, .int 0, .ref (bs + (k + 13)), .ref (bs + (k + 14)), .ref (bs + (k + 15)), .ref (bs + (k + 16)), .ref (bs + (k + 17)), .int 0, .int 0, .ref (bs + (k + 18)), .ref (bs + (k + 19)), .ref (bs + (k + 20)), .int 0, .int 0, .int 0, .int 0, .int 0, .int 0, .int 0, .int 0, .int 0, .int 0, .int 0, .int 0, .ref (bs + (k + 21)), .ref (bs + (k + 22)), .int 0, .int 0, .ref (bs + (k + 23)), .ref (bs + (k + 24)), .ref (bs + (k + 25)), .ref (bs + (k + 26)), .ref (bs + (k + 27)), .ref (bs + (k + 28)), .ref (bs + (k + 29)), .ref (bs + (k + 30)), .ref (bs + (k + 31))] := by
  unfold fsM9
  rw [fsMx_8]
  rfl
theorem fv24_0 {bs : Nat} {sa : Nat → Nat} : fv (adF bs sa) I0 L0 (GRf 0) 24 0 2 = .ref (bs + (171 + 0)) := rfl
theorem fv24_1 {bs : Nat} {sa : Nat → Nat} : fv (adF bs sa) I0 L0 (GRf 0) 24 1 2 = .ref (bs + (171 + 1)) := rfl
theorem fv24_2 {bs : Nat} {sa : Nat → Nat} : fv (adF bs sa) I0 L0 (GRf 0) 24 2 2 = .ref (bs + (171 + 2)) := rfl
theorem fv24_3 {bs : Nat} {sa : Nat → Nat} : fv (adF bs sa) I0 L0 (GRf 0) 24 3 2 = .ref (bs + (171 + 3)) := rfl
theorem fv24_4 {bs : Nat} {sa : Nat → Nat} : fv (adF bs sa) I0 L0 (GRf 0) 24 4 2 = .ref (bs + (171 + 4)) := rfl
theorem fv24_5 {bs : Nat} {sa : Nat → Nat} : fv (adF bs sa) I0 L0 (GRf 0) 24 5 0 = .int 0 := rfl
theorem fv24_6 {bs : Nat} {sa : Nat → Nat} : fv (adF bs sa) I0 L0 (GRf 0) 24 6 2 = .ref (bs + (171 + 5)) := rfl
theorem fv24_7 {bs : Nat} {sa : Nat → Nat} : fv (adF bs sa) I0 L0 (GRf 0) 24 7 0 = .int 0 := rfl
theorem fv24_8 {bs : Nat} {sa : Nat → Nat} : fv (adF bs sa) I0 L0 (GRf 0) 24 8 2 = .ref (bs + (171 + 6)) := rfl
theorem fv24_9 {bs : Nat} {sa : Nat → Nat} : fv (adF bs sa) I0 L0 (GRf 0) 24 9 0 = .int 0 := rfl
theorem fv24_10 {bs : Nat} {sa : Nat → Nat} : fv (adF bs sa) I0 L0 (GRf 0) 24 10 0 = .int 0 := rfl
theorem fv24_11 {bs : Nat} {sa : Nat → Nat} : fv (adF bs sa) I0 L0 (GRf 0) 24 11 0 = .int 0 := rfl
theorem fv24_12 {bs : Nat} {sa : Nat → Nat} : fv (adF bs sa) I0 L0 (GRf 0) 24 12 0 = .int 0 := rfl
theorem fv24_13 {bs : Nat} {sa : Nat → Nat} : fv (adF bs sa) I0 L0 (GRf 0) 24 13 0 = .int 0 := rfl
theorem fv24_14 {bs : Nat} {sa : Nat → Nat} : fv (adF bs sa) I0 L0 (GRf 0) 24 14 0 = .int 0 := rfl
theorem fv24_15 {bs : Nat} {sa : Nat → Nat} : fv (adF bs sa) I0 L0 (GRf 0) 24 15 0 = .int 0 := rfl
theorem fv24_16 {bs : Nat} {sa : Nat → Nat} : fv (adF bs sa) I0 L0 (GRf 0) 24 16 0 = .int (-1) := rfl
theorem fv24_17 {bs : Nat} {sa : Nat → Nat} : fv (adF bs sa) I0 L0 (GRf 0) 24 17 0 = .int 0 := rfl
theorem fv24_18 {bs : Nat} {sa : Nat → Nat} : fv (adF bs sa) I0 L0 (GRf 0) 24 18 2 = .ref (bs + (171 + 7)) := rfl
theorem fv24_19 {bs : Nat} {sa : Nat → Nat} : fv (adF bs sa) I0 L0 (GRf 0) 24 19 2 = .ref (bs + (171 + 8)) := rfl
theorem fv24_20 {bs : Nat} {sa : Nat → Nat} : fv (adF bs sa) I0 L0 (GRf 0) 24 20 2 = .ref (bs + (171 + 9)) := rfl
theorem fv24_21 {bs : Nat} {sa : Nat → Nat} : fv (adF bs sa) I0 L0 (GRf 0) 24 21 0 = .int 0 := rfl
theorem fv24_22 {bs : Nat} {sa : Nat → Nat} : fv (adF bs sa) I0 L0 (GRf 0) 24 22 2 = .ref (bs + (171 + 10)) := rfl
theorem fv24_23 {bs : Nat} {sa : Nat → Nat} : fv (adF bs sa) I0 L0 (GRf 0) 24 23 2 = .ref (bs + (171 + 11)) := rfl
theorem fv24_24 {bs : Nat} {sa : Nat → Nat} : fv (adF bs sa) I0 L0 (GRf 0) 24 24 2 = .ref (bs + (171 + 12)) := rfl
theorem fv24_25 {bs : Nat} {sa : Nat → Nat} : fv (adF bs sa) I0 L0 (GRf 0) 24 25 0 = .int 0 := rfl
theorem fv24_26 {bs : Nat} {sa : Nat → Nat} : fv (adF bs sa) I0 L0 (GRf 0) 24 26 0 = .int 0 := rfl
theorem fv24_27 {bs : Nat} {sa : Nat → Nat} : fv (adF bs sa) I0 L0 (GRf 0) 24 27 0 = .int 0 := rfl
theorem fv24_28 {bs : Nat} {sa : Nat → Nat} : fv (adF bs sa) I0 L0 (GRf 0) 24 28 0 = .int 0 := rfl
theorem fv24_29 {bs : Nat} {sa : Nat → Nat} : fv (adF bs sa) I0 L0 (GRf 0) 24 29 2 = .ref (bs + (171 + 13)) := rfl
theorem fv24_30 {bs : Nat} {sa : Nat → Nat} : fv (adF bs sa) I0 L0 (GRf 0) 24 30 2 = .ref (bs + (171 + 14)) := rfl
theorem fv24_31 {bs : Nat} {sa : Nat → Nat} : fv (adF bs sa) I0 L0 (GRf 0) 24 31 2 = .ref (bs + (171 + 15)) := rfl
theorem fv24_32 {bs : Nat} {sa : Nat → Nat} : fv (adF bs sa) I0 L0 (GRf 0) 24 32 2 = .ref (bs + (171 + 16)) := rfl
theorem fv24_33 {bs : Nat} {sa : Nat → Nat} : fv (adF bs sa) I0 L0 (GRf 0) 24 33 2 = .ref (bs + (171 + 17)) := rfl
theorem fv24_34 {bs : Nat} {sa : Nat → Nat} : fv (adF bs sa) I0 L0 (GRf 0) 24 34 0 = .int 0 := rfl
theorem fv24_35 {bs : Nat} {sa : Nat → Nat} : fv (adF bs sa) I0 L0 (GRf 0) 24 35 0 = .int 0 := rfl
theorem fv24_36 {bs : Nat} {sa : Nat → Nat} : fv (adF bs sa) I0 L0 (GRf 0) 24 36 2 = .ref (bs + (171 + 18)) := rfl
theorem fv24_37 {bs : Nat} {sa : Nat → Nat} : fv (adF bs sa) I0 L0 (GRf 0) 24 37 2 = .ref (bs + (171 + 19)) := rfl
theorem fv24_38 {bs : Nat} {sa : Nat → Nat} : fv (adF bs sa) I0 L0 (GRf 0) 24 38 2 = .ref (bs + (171 + 20)) := rfl
theorem fv24_39 {bs : Nat} {sa : Nat → Nat} : fv (adF bs sa) I0 L0 (GRf 0) 24 39 0 = .int 0 := rfl
theorem fv24_40 {bs : Nat} {sa : Nat → Nat} : fv (adF bs sa) I0 L0 (GRf 0) 24 40 0 = .int 0 := rfl
theorem fv24_41 {bs : Nat} {sa : Nat → Nat} : fv (adF bs sa) I0 L0 (GRf 0) 24 41 0 = .int 0 := rfl
theorem fv24_42 {bs : Nat} {sa : Nat → Nat} : fv (adF bs sa) I0 L0 (GRf 0) 24 42 0 = .int 0 := rfl
theorem fv24_43 {bs : Nat} {sa : Nat → Nat} : fv (adF bs sa) I0 L0 (GRf 0) 24 43 0 = .int 0 := rfl
theorem fv24_44 {bs : Nat} {sa : Nat → Nat} : fv (adF bs sa) I0 L0 (GRf 0) 24 44 0 = .int 0 := rfl
theorem fv24_45 {bs : Nat} {sa : Nat → Nat} : fv (adF bs sa) I0 L0 (GRf 0) 24 45 0 = .int 0 := rfl
theorem fv24_46 {bs : Nat} {sa : Nat → Nat} : fv (adF bs sa) I0 L0 (GRf 0) 24 46 0 = .int 0 := rfl
theorem fv24_47 {bs : Nat} {sa : Nat → Nat} : fv (adF bs sa) I0 L0 (GRf 0) 24 47 0 = .int 0 := rfl
theorem fv24_48 {bs : Nat} {sa : Nat → Nat} : fv (adF bs sa) I0 L0 (GRf 0) 24 48 0 = .int 0 := rfl
theorem fv24_49 {bs : Nat} {sa : Nat → Nat} : fv (adF bs sa) I0 L0 (GRf 0) 24 49 0 = .int 0 := rfl
theorem fv24_50 {bs : Nat} {sa : Nat → Nat} : fv (adF bs sa) I0 L0 (GRf 0) 24 50 0 = .int 0 := rfl
theorem fv24_51 {bs : Nat} {sa : Nat → Nat} : fv (adF bs sa) I0 L0 (GRf 0) 24 51 2 = .ref (bs + (171 + 21)) := rfl
theorem fv24_52 {bs : Nat} {sa : Nat → Nat} : fv (adF bs sa) I0 L0 (GRf 0) 24 52 2 = .ref (bs + (171 + 22)) := rfl
theorem fv24_53 {bs : Nat} {sa : Nat → Nat} : fv (adF bs sa) I0 L0 (GRf 0) 24 53 0 = .int 0 := rfl
theorem fv24_54 {bs : Nat} {sa : Nat → Nat} : fv (adF bs sa) I0 L0 (GRf 0) 24 54 0 = .int 0 := rfl
theorem fv24_55 {bs : Nat} {sa : Nat → Nat} : fv (adF bs sa) I0 L0 (GRf 0) 24 55 2 = .ref (bs + (171 + 23)) := rfl
theorem fv24_56 {bs : Nat} {sa : Nat → Nat} : fv (adF bs sa) I0 L0 (GRf 0) 24 56 2 = .ref (bs + (171 + 24)) := rfl
theorem fv24_57 {bs : Nat} {sa : Nat → Nat} : fv (adF bs sa) I0 L0 (GRf 0) 24 57 2 = .ref (bs + (171 + 25)) := rfl
theorem fv24_58 {bs : Nat} {sa : Nat → Nat} : fv (adF bs sa) I0 L0 (GRf 0) 24 58 2 = .ref (bs + (171 + 26)) := rfl
theorem fv24_59 {bs : Nat} {sa : Nat → Nat} : fv (adF bs sa) I0 L0 (GRf 0) 24 59 2 = .ref (bs + (171 + 27)) := rfl
theorem fv24_60 {bs : Nat} {sa : Nat → Nat} : fv (adF bs sa) I0 L0 (GRf 0) 24 60 2 = .ref (bs + (171 + 28)) := rfl
theorem fv24_61 {bs : Nat} {sa : Nat → Nat} : fv (adF bs sa) I0 L0 (GRf 0) 24 61 2 = .ref (bs + (171 + 29)) := rfl
theorem fv24_62 {bs : Nat} {sa : Nat → Nat} : fv (adF bs sa) I0 L0 (GRf 0) 24 62 2 = .ref (bs + (171 + 30)) := rfl
theorem fv24_63 {bs : Nat} {sa : Nat → Nat} : fv (adF bs sa) I0 L0 (GRf 0) 24 63 2 = .ref (bs + (171 + 31)) := rfl
set_option maxRecDepth 100000 in
theorem eF_24 {cA : Nat → ClassId} {bs : Nat} {sa : Nat → Nat} {E : Nat → va_E} (he : E 170 = .inr (11, dfl 11)) : E_X12_init cA bs 171 170 E 170 = ce cA (adF bs sa) I0 L0 (GRf 0) 24 := by
  unfold E_X12_init
  rw [EM9_p he, fsMx_9, ce_obj (ci := 11) (by decide) (by decide)]
  have e : fl (adF bs sa) I0 L0 (GRf 0) 24 (sg.getD 11 []) = [.ref (bs + (171 + 0)), .ref (bs + (171 + 1)), .ref (bs + (171 + 2)), .ref (bs + (171 + 3)), .ref (bs + (171 + 4)), .int 0, .ref (bs + (171 + 5)), .int 0, .ref (bs + (171 + 6)), .int 0, .int 0, .int 0, .int 0, .int 0, .int 0, .int 0, .int (-1), .int 0, .ref (bs + (171 + 7)), .ref (bs + (171 + 8)), .ref (bs + (171 + 9)), .int 0, .ref (bs + (171 + 10)), .ref (bs + (171 + 11)), .ref (bs + (171 + 12)), .int 0, .int 0, .int 0, .int 0, .ref (bs + (171 + 13)), .ref (bs + (171 + 14)), .ref (bs + (171 + 15)), .ref (bs + (171 + 16)), .ref (bs + (171 + 17)), .int 0, .int 0, .ref (bs + (171 + 18)), .ref (bs + (171 + 19)), .ref (bs + (171 + 20)), .int 0, .int 0, .int 0, .int 0, .int 0, .int 0, .int 0, .int 0, .int 0, .int 0, .int 0, .int 0, .ref (bs + (171 + 21)), .ref (bs + (171 + 22)), .int 0, .int 0, .ref (bs + (171 + 23)), .ref (bs + (171 + 24)), .ref (bs + (171 + 25)), .ref (bs + (171 + 26)), .ref (bs + (171 + 27)), .ref (bs + (171 + 28)), .ref (bs + (171 + 29)), .ref (bs + (171 + 30)), .ref (bs + (171 + 31))] := by
    show fl (adF bs sa) I0 L0 (GRf 0) 24 [2, 2, 2, 2, 2, 0, 2, 0, 2, 0, 0, 0, 0, 0, 0, 0, 0, 0, 2, 2, 2, 0, 2, 2, 2, 0, 0, 0, 0, 2, 2, 2, 2, 2, 0, 0, 2, 2, 2, 0, 0, 0, 0, 0, 0, 0, 0, 0, 0, 0, 0, 2, 2, 0, 0, 2, 2, 2, 2, 2, 2, 2, 2, 2] = _
    simp only [fl, List.mapIdx_cons, List.mapIdx_nil, Nat.reduceAdd, fv24_0, fv24_1, fv24_2, fv24_3, fv24_4, fv24_5, fv24_6, fv24_7, fv24_8, fv24_9, fv24_10, fv24_11, fv24_12, fv24_13, fv24_14, fv24_15, fv24_16, fv24_17, fv24_18, fv24_19, fv24_20, fv24_21, fv24_22, fv24_23, fv24_24, fv24_25, fv24_26, fv24_27, fv24_28, fv24_29, fv24_30, fv24_31, fv24_32, fv24_33, fv24_34, fv24_35, fv24_36, fv24_37, fv24_38, fv24_39, fv24_40, fv24_41, fv24_42, fv24_43, fv24_44, fv24_45, fv24_46, fv24_47, fv24_48, fv24_49, fv24_50, fv24_51, fv24_52, fv24_53, fv24_54, fv24_55, fv24_56, fv24_57, fv24_58, fv24_59, fv24_60, fv24_61, fv24_62, fv24_63]
  rw [e]
theorem eF_57 {cA : Nat → ClassId} {bs : Nat} {sa : Nat → Nat} {E : Nat → va_E} : EF cA bs E 203 = ce cA (adF bs sa) I0 L0 (GRf 0) 57 := upE_at
theorem EF_hi {cA : Nat → ClassId} {bs : Nat} {E : Nat → va_E} {q : Nat} (h : q ≠ 203) : EF cA bs E q = E_X12_init cA bs 171 170 (upE (EF1 cA bs E) 170 (.inr (11, dfl 11))) q := by
  unfold EF
  rw [upE_ne h]
theorem eA_0 {cA : Nat → ClassId} {bs : Nat} {sa : Nat → Nat} {E : Nat → va_E} : ∀ i : Nat, i < 34 → EF cA bs E (ordN (0 + i)) = ce cA (adF bs sa) I0 L0 (GRf 0) (0 + i)
  | 0, _ => (EF_lo (q := 0) (by decide)).trans eF_0
  | 1, _ => (EF_lo (q := 1) (by decide)).trans eF_1
  | 2, _ => (EF_lo (q := 2) (by decide)).trans eF_2
  | 3, _ => (EF_lo (q := 7) (by decide)).trans eF_3
  | 4, _ => (EF_lo (q := 88) (by decide)).trans eF_4
  | 5, _ => (EF_lo (q := 89) (by decide)).trans eF_5
  | 6, _ => (EF_lo (q := 90) (by decide)).trans eF_6
  | 7, _ => (EF_lo (q := 91) (by decide)).trans eF_7
  | 8, _ => (EF_lo (q := 92) (by decide)).trans eF_8
  | 9, _ => (EF_lo (q := 93) (by decide)).trans eF_9
  | 10, _ => (EF_lo (q := 94) (by decide)).trans eF_10
  | 11, _ => (EF_lo (q := 95) (by decide)).trans eF_11
  | 12, _ => (EF_lo (q := 96) (by decide)).trans eF_12
  | 13, _ => (EF_lo (q := 97) (by decide)).trans eF_13
  | 14, _ => (EF_lo (q := 98) (by decide)).trans eF_14
  | 15, _ => (EF_lo (q := 99) (by decide)).trans eF_15
  | 16, _ => (EF_lo (q := 100) (by decide)).trans eF_16
  | 17, _ => (EF_lo (q := 101) (by decide)).trans eF_17
  | 18, _ => (EF_lo (q := 102) (by decide)).trans eF_18
  | 19, _ => (EF_lo (q := 103) (by decide)).trans eF_19
  | 20, _ => (EF_lo (q := 104) (by decide)).trans eF_20
  | 21, _ => (EF_lo (q := 105) (by decide)).trans eF_21
  | 22, _ => (EF_lo (q := 137) (by decide)).trans eF_22
  | 23, _ => (EF_lo (q := 138) (by decide)).trans eF_23
  | 24, _ => (EF_hi (q := 170) (by decide)).trans (eF_24 upE_at)
  | 25, _ => (EF_hi (q := 171) (by decide)).trans eF_25
  | 26, _ => (EF_hi (q := 172) (by decide)).trans eF_26
  | 27, _ => (EF_hi (q := 173) (by decide)).trans eF_27
  | 28, _ => (EF_hi (q := 174) (by decide)).trans eF_28
  | 29, _ => (EF_hi (q := 175) (by decide)).trans eF_29
  | 30, _ => (EF_hi (q := 176) (by decide)).trans eF_30
  | 31, _ => (EF_hi (q := 177) (by decide)).trans eF_31
  | 32, _ => (EF_hi (q := 178) (by decide)).trans eF_32
  | 33, _ => (EF_hi (q := 179) (by decide)).trans eF_33
  | i + 34, h => absurd h (by omega)
theorem eA_1 {cA : Nat → ClassId} {bs : Nat} {sa : Nat → Nat} {E : Nat → va_E} : ∀ i : Nat, i < 34 → EF cA bs E (ordN (34 + i)) = ce cA (adF bs sa) I0 L0 (GRf 0) (34 + i)
  | 0, _ => (EF_hi (q := 180) (by decide)).trans eF_34
  | 1, _ => (EF_hi (q := 181) (by decide)).trans eF_35
  | 2, _ => (EF_hi (q := 182) (by decide)).trans eF_36
  | 3, _ => (EF_hi (q := 183) (by decide)).trans eF_37
  | 4, _ => (EF_hi (q := 184) (by decide)).trans eF_38
  | 5, _ => (EF_hi (q := 185) (by decide)).trans eF_39
  | 6, _ => (EF_hi (q := 186) (by decide)).trans eF_40
  | 7, _ => (EF_hi (q := 187) (by decide)).trans eF_41
  | 8, _ => (EF_hi (q := 188) (by decide)).trans eF_42
  | 9, _ => (EF_hi (q := 189) (by decide)).trans eF_43
  | 10, _ => (EF_hi (q := 190) (by decide)).trans eF_44
  | 11, _ => (EF_hi (q := 191) (by decide)).trans eF_45
  | 12, _ => (EF_hi (q := 192) (by decide)).trans eF_46
  | 13, _ => (EF_hi (q := 193) (by decide)).trans eF_47
  | 14, _ => (EF_hi (q := 194) (by decide)).trans eF_48
  | 15, _ => (EF_hi (q := 195) (by decide)).trans eF_49
  | 16, _ => (EF_hi (q := 196) (by decide)).trans eF_50
  | 17, _ => (EF_hi (q := 197) (by decide)).trans eF_51
  | 18, _ => (EF_hi (q := 198) (by decide)).trans eF_52
  | 19, _ => (EF_hi (q := 199) (by decide)).trans eF_53
  | 20, _ => (EF_hi (q := 200) (by decide)).trans eF_54
  | 21, _ => (EF_hi (q := 201) (by decide)).trans eF_55
  | 22, _ => (EF_hi (q := 202) (by decide)).trans eF_56
  | 23, _ => eF_57
  | 24, _ => (EF_lo (q := 8) (by decide)).trans eF_58
  | 25, _ => (EF_lo (q := 9) (by decide)).trans eF_59
  | 26, _ => (EF_lo (q := 10) (by decide)).trans eF_60
  | 27, _ => (EF_lo (q := 11) (by decide)).trans eF_61
  | 28, _ => (EF_lo (q := 12) (by decide)).trans eF_62
  | 29, _ => (EF_lo (q := 13) (by decide)).trans eF_63
  | 30, _ => (EF_lo (q := 14) (by decide)).trans eF_64
  | 31, _ => (EF_lo (q := 15) (by decide)).trans eF_65
  | 32, _ => (EF_lo (q := 16) (by decide)).trans eF_66
  | 33, _ => (EF_lo (q := 17) (by decide)).trans eF_67
  | i + 34, h => absurd h (by omega)
theorem eA_2 {cA : Nat → ClassId} {bs : Nat} {sa : Nat → Nat} {E : Nat → va_E} : ∀ i : Nat, i < 34 → EF cA bs E (ordN (68 + i)) = ce cA (adF bs sa) I0 L0 (GRf 0) (68 + i)
  | 0, _ => (EF_lo (q := 18) (by decide)).trans eF_68
  | 1, _ => (EF_lo (q := 19) (by decide)).trans eF_69
  | 2, _ => (EF_lo (q := 20) (by decide)).trans eF_70
  | 3, _ => (EF_lo (q := 21) (by decide)).trans eF_71
  | 4, _ => (EF_lo (q := 22) (by decide)).trans eF_72
  | 5, _ => (EF_lo (q := 23) (by decide)).trans eF_73
  | 6, _ => (EF_lo (q := 24) (by decide)).trans eF_74
  | 7, _ => (EF_lo (q := 25) (by decide)).trans eF_75
  | 8, _ => (EF_lo (q := 26) (by decide)).trans eF_76
  | 9, _ => (EF_lo (q := 27) (by decide)).trans eF_77
  | 10, _ => (EF_lo (q := 28) (by decide)).trans eF_78
  | 11, _ => (EF_lo (q := 29) (by decide)).trans eF_79
  | 12, _ => (EF_lo (q := 30) (by decide)).trans eF_80
  | 13, _ => (EF_lo (q := 31) (by decide)).trans eF_81
  | 14, _ => (EF_lo (q := 32) (by decide)).trans eF_82
  | 15, _ => (EF_lo (q := 33) (by decide)).trans eF_83
  | 16, _ => (EF_lo (q := 34) (by decide)).trans eF_84
  | 17, _ => (EF_lo (q := 35) (by decide)).trans eF_85
  | 18, _ => (EF_lo (q := 36) (by decide)).trans eF_86
  | 19, _ => (EF_lo (q := 37) (by decide)).trans eF_87
  | 20, _ => (EF_lo (q := 38) (by decide)).trans eF_88
  | 21, _ => (EF_lo (q := 39) (by decide)).trans eF_89
  | 22, _ => (EF_lo (q := 40) (by decide)).trans eF_90
  | 23, _ => (EF_lo (q := 41) (by decide)).trans eF_91
  | 24, _ => (EF_lo (q := 42) (by decide)).trans eF_92
  | 25, _ => (EF_lo (q := 43) (by decide)).trans eF_93
  | 26, _ => (EF_lo (q := 44) (by decide)).trans eF_94
  | 27, _ => (EF_lo (q := 45) (by decide)).trans eF_95
  | 28, _ => (EF_lo (q := 46) (by decide)).trans eF_96
  | 29, _ => (EF_lo (q := 47) (by decide)).trans eF_97
  | 30, _ => (EF_lo (q := 48) (by decide)).trans eF_98
  | 31, _ => (EF_lo (q := 49) (by decide)).trans eF_99
  | 32, _ => (EF_lo (q := 50) (by decide)).trans eF_100
  | 33, _ => (EF_lo (q := 51) (by decide)).trans eF_101
  | i + 34, h => absurd h (by omega)
theorem eA_3 {cA : Nat → ClassId} {bs : Nat} {sa : Nat → Nat} {E : Nat → va_E} : ∀ i : Nat, i < 34 → EF cA bs E (ordN (102 + i)) = ce cA (adF bs sa) I0 L0 (GRf 0) (102 + i)
  | 0, _ => (EF_lo (q := 52) (by decide)).trans eF_102
  | 1, _ => (EF_lo (q := 53) (by decide)).trans eF_103
  | 2, _ => (EF_lo (q := 54) (by decide)).trans eF_104
  | 3, _ => (EF_lo (q := 55) (by decide)).trans eF_105
  | 4, _ => (EF_lo (q := 56) (by decide)).trans eF_106
  | 5, _ => (EF_lo (q := 57) (by decide)).trans eF_107
  | 6, _ => (EF_lo (q := 58) (by decide)).trans eF_108
  | 7, _ => (EF_lo (q := 59) (by decide)).trans eF_109
  | 8, _ => (EF_lo (q := 60) (by decide)).trans eF_110
  | 9, _ => (EF_lo (q := 61) (by decide)).trans eF_111
  | 10, _ => (EF_lo (q := 62) (by decide)).trans eF_112
  | 11, _ => (EF_lo (q := 63) (by decide)).trans eF_113
  | 12, _ => (EF_lo (q := 64) (by decide)).trans eF_114
  | 13, _ => (EF_lo (q := 65) (by decide)).trans eF_115
  | 14, _ => (EF_lo (q := 66) (by decide)).trans eF_116
  | 15, _ => (EF_lo (q := 67) (by decide)).trans eF_117
  | 16, _ => (EF_lo (q := 68) (by decide)).trans eF_118
  | 17, _ => (EF_lo (q := 69) (by decide)).trans eF_119
  | 18, _ => (EF_lo (q := 70) (by decide)).trans eF_120
  | 19, _ => (EF_lo (q := 71) (by decide)).trans eF_121
  | 20, _ => (EF_lo (q := 72) (by decide)).trans eF_122
  | 21, _ => (EF_lo (q := 73) (by decide)).trans eF_123
  | 22, _ => (EF_lo (q := 74) (by decide)).trans eF_124
  | 23, _ => (EF_lo (q := 75) (by decide)).trans eF_125
  | 24, _ => (EF_lo (q := 76) (by decide)).trans eF_126
  | 25, _ => (EF_lo (q := 77) (by decide)).trans eF_127
  | 26, _ => (EF_lo (q := 78) (by decide)).trans eF_128
  | 27, _ => (EF_lo (q := 79) (by decide)).trans eF_129
  | 28, _ => (EF_lo (q := 80) (by decide)).trans eF_130
  | 29, _ => (EF_lo (q := 81) (by decide)).trans eF_131
  | 30, _ => (EF_lo (q := 82) (by decide)).trans eF_132
  | 31, _ => (EF_lo (q := 83) (by decide)).trans eF_133
  | 32, _ => (EF_lo (q := 84) (by decide)).trans eF_134
  | 33, _ => (EF_lo (q := 85) (by decide)).trans eF_135
  | i + 34, h => absurd h (by omega)
theorem eA_4 {cA : Nat → ClassId} {bs : Nat} {sa : Nat → Nat} {E : Nat → va_E} : ∀ i : Nat, i < 34 → EF cA bs E (ordN (136 + i)) = ce cA (adF bs sa) I0 L0 (GRf 0) (136 + i)
  | 0, _ => (EF_lo (q := 86) (by decide)).trans eF_136
  | 1, _ => (EF_lo (q := 87) (by decide)).trans eF_137
  | 2, _ => (EF_lo (q := 3) (by decide)).trans eF_138
  | 3, _ => (EF_lo (q := 4) (by decide)).trans eF_139
  | 4, _ => (EF_lo (q := 5) (by decide)).trans eF_140
  | 5, _ => (EF_lo (q := 6) (by decide)).trans eF_141
  | 6, _ => (EF_lo (q := 107) (by decide)).trans eF_142
  | 7, _ => (EF_lo (q := 108) (by decide)).trans eF_143
  | 8, _ => (EF_lo (q := 109) (by decide)).trans eF_144
  | 9, _ => (EF_lo (q := 110) (by decide)).trans eF_145
  | 10, _ => (EF_lo (q := 111) (by decide)).trans eF_146
  | 11, _ => (EF_lo (q := 112) (by decide)).trans eF_147
  | 12, _ => (EF_lo (q := 113) (by decide)).trans eF_148
  | 13, _ => (EF_lo (q := 114) (by decide)).trans eF_149
  | 14, _ => (EF_lo (q := 115) (by decide)).trans eF_150
  | 15, _ => (EF_lo (q := 116) (by decide)).trans eF_151
  | 16, _ => (EF_lo (q := 117) (by decide)).trans eF_152
  | 17, _ => (EF_lo (q := 118) (by decide)).trans eF_153
  | 18, _ => (EF_lo (q := 119) (by decide)).trans eF_154
  | 19, _ => (EF_lo (q := 120) (by decide)).trans eF_155
  | 20, _ => (EF_lo (q := 121) (by decide)).trans eF_156
  | 21, _ => (EF_lo (q := 122) (by decide)).trans eF_157
  | 22, _ => (EF_lo (q := 123) (by decide)).trans eF_158
  | 23, _ => (EF_lo (q := 124) (by decide)).trans eF_159
  | 24, _ => (EF_lo (q := 125) (by decide)).trans eF_160
  | 25, _ => (EF_lo (q := 126) (by decide)).trans eF_161
  | 26, _ => (EF_lo (q := 127) (by decide)).trans eF_162
  | 27, _ => (EF_lo (q := 128) (by decide)).trans eF_163
  | 28, _ => (EF_lo (q := 129) (by decide)).trans eF_164
  | 29, _ => (EF_lo (q := 130) (by decide)).trans eF_165
  | 30, _ => (EF_lo (q := 131) (by decide)).trans eF_166
  | 31, _ => (EF_lo (q := 132) (by decide)).trans eF_167
  | 32, _ => (EF_lo (q := 133) (by decide)).trans eF_168
  | 33, _ => (EF_lo (q := 134) (by decide)).trans eF_169
  | i + 34, h => absurd h (by omega)
theorem eA_5 {cA : Nat → ClassId} {bs : Nat} {sa : Nat → Nat} {E : Nat → va_E} : ∀ i : Nat, i < 34 → EF cA bs E (ordN (170 + i)) = ce cA (adF bs sa) I0 L0 (GRf 0) (170 + i)
  | 0, _ => (EF_lo (q := 135) (by decide)).trans eF_170
  | 1, _ => (EF_lo (q := 136) (by decide)).trans eF_171
  | 2, _ => (EF_lo (q := 106) (by decide)).trans eF_172
  | 3, _ => (EF_lo (q := 140) (by decide)).trans eF_173
  | 4, _ => (EF_lo (q := 141) (by decide)).trans eF_174
  | 5, _ => (EF_lo (q := 142) (by decide)).trans eF_175
  | 6, _ => (EF_lo (q := 143) (by decide)).trans eF_176
  | 7, _ => (EF_lo (q := 144) (by decide)).trans eF_177
  | 8, _ => (EF_lo (q := 145) (by decide)).trans eF_178
  | 9, _ => (EF_lo (q := 146) (by decide)).trans eF_179
  | 10, _ => (EF_lo (q := 147) (by decide)).trans eF_180
  | 11, _ => (EF_lo (q := 148) (by decide)).trans eF_181
  | 12, _ => (EF_lo (q := 149) (by decide)).trans eF_182
  | 13, _ => (EF_lo (q := 150) (by decide)).trans eF_183
  | 14, _ => (EF_lo (q := 151) (by decide)).trans eF_184
  | 15, _ => (EF_lo (q := 152) (by decide)).trans eF_185
  | 16, _ => (EF_lo (q := 153) (by decide)).trans eF_186
  | 17, _ => (EF_lo (q := 154) (by decide)).trans eF_187
  | 18, _ => (EF_lo (q := 155) (by decide)).trans eF_188
  | 19, _ => (EF_lo (q := 156) (by decide)).trans eF_189
  | 20, _ => (EF_lo (q := 157) (by decide)).trans eF_190
  | 21, _ => (EF_lo (q := 158) (by decide)).trans eF_191
  | 22, _ => (EF_lo (q := 159) (by decide)).trans eF_192
  | 23, _ => (EF_lo (q := 160) (by decide)).trans eF_193
  | 24, _ => (EF_lo (q := 161) (by decide)).trans eF_194
  | 25, _ => (EF_lo (q := 162) (by decide)).trans eF_195
  | 26, _ => (EF_lo (q := 163) (by decide)).trans eF_196
  | 27, _ => (EF_lo (q := 164) (by decide)).trans eF_197
  | 28, _ => (EF_lo (q := 165) (by decide)).trans eF_198
  | 29, _ => (EF_lo (q := 166) (by decide)).trans eF_199
  | 30, _ => (EF_lo (q := 167) (by decide)).trans eF_200
  | 31, _ => (EF_lo (q := 168) (by decide)).trans eF_201
  | 32, _ => (EF_lo (q := 169) (by decide)).trans eF_202
  | 33, _ => (EF_lo (q := 139) (by decide)).trans eF_203
  | i + 34, h => absurd h (by omega)
theorem eA {cA : Nat → ClassId} {bs : Nat} {sa : Nat → Nat} {E : Nat → va_E} {k : Nat} (hk : k < 204) : EF cA bs E (ordN k) = ce cA (adF bs sa) I0 L0 (GRf 0) k := by
  have h : k < 34 ∨ (34 ≤ k ∧ k < 68) ∨ (68 ≤ k ∧ k < 102) ∨ (102 ≤ k ∧ k < 136) ∨ (136 ≤ k ∧ k < 170) ∨ (170 ≤ k ∧ k < 204) := by omega
  rcases h with h | h | h | h | h | h
  · have := eA_0 (cA := cA) (bs := bs) (sa := sa) (E := E) k h
    rw [Nat.zero_add] at this
    exact this
  · have := eA_1 (cA := cA) (bs := bs) (sa := sa) (E := E) (k - 34) (by omega)
    rw [show 34 + (k - 34) = k by omega] at this
    exact this
  · have := eA_2 (cA := cA) (bs := bs) (sa := sa) (E := E) (k - 68) (by omega)
    rw [show 68 + (k - 68) = k by omega] at this
    exact this
  · have := eA_3 (cA := cA) (bs := bs) (sa := sa) (E := E) (k - 102) (by omega)
    rw [show 102 + (k - 102) = k by omega] at this
    exact this
  · have := eA_4 (cA := cA) (bs := bs) (sa := sa) (E := E) (k - 136) (by omega)
    rw [show 136 + (k - 136) = k by omega] at this
    exact this
  · have := eA_5 (cA := cA) (bs := bs) (sa := sa) (E := E) (k - 170) (by omega)
    rw [show 170 + (k - 170) = k by omega] at this
    exact this
theorem world_all {D : va_G} {cA : Nat → ClassId} {bs : Nat} {sa : Nat → Nat} {E : Nat → va_E} {H : Heap} (h : va_P D vwCl (wk bs 204 (EF cA bs E)) H) : va_P D vwCl (wl cA (adF bs sa) I0 L0 (GRf 0)) H := by
  intro k q hq
  by_cases hk : k < 204
  · rw [wl_at hk] at hq
    cases hq
    have h1 := h (ordN k) _ (wk_at (ord_inv k hk).1)
    rw [eA (sa := sa) hk, show bs + ordN k = adF bs sa k by unfold adF; rw [if_pos hk]] at h1
    exact h1
  · rw [List.getElem?_eq_none (by simp [wl, NN]; omega)] at hq
    cases hq
