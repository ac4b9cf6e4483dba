theorem tbl_app {cc : ByteArray} {p1 p2 : Nat} {b : List Int32} : ∀ (a : List Int32) (pc i : Nat), tblAt cc pc i a = some p1 → tblAt cc p1 (i + a.length) b = some p2 → tblAt cc pc i (a ++ b) = some p2 := by
  intro a
  induction a with
  | nil =>
    intro pc i h1 h2
    cases h1
    exact h2
  | cons v vs ih =>
    intro pc i h1 h2
    rw [List.cons_append]
    unfold tblAt at h1 ⊢
    split at h1
    · rename_i g1
      rw [if_pos g1]
      obtain ⟨q1, e1, h1⟩ := Option.bind_eq_some_iff.mp h1
      obtain ⟨q2, e2, h1⟩ := Option.bind_eq_some_iff.mp h1
      split at h1
      · rename_i g2
        rw [e1]
        show (pushAt cc q1 v).bind _ = _
        rw [e2]
        show (if isIast cc q2 = true then _ else _) = _
        rw [if_pos g2]
        refine ih _ _ h1 ?_
        rw [List.length_cons] at h2
        rw [show i + 1 + vs.length = i + (vs.length + 1) by omega]
        exact h2
      · cases h1
    · cases h1
def tv_7 : List Int32 := [-1, 0, 1, 2, 1, 1, 0, 6, 7, 6, 9, 10, 9, 9, 9, 6, 15, 15, 15, 18, 6, 20, 0, 22, 23, 22, 0, 26, 26]
theorem tktv_7_0 : tblAt cX12_init 9 0 [-1, 0, 1, 2, 1, 1] = some 33 := by decide +kernel
theorem tktv_7_6 : tblAt cX12_init 33 6 [0, 6, 7, 6, 9, 10] = some 68 := by decide +kernel
theorem tktv_7_12 : tblAt cX12_init 68 12 [9, 9, 9, 6, 15, 15] = some 104 := by decide +kernel
theorem tktv_7_18 : tblAt cX12_init 104 18 [15, 18, 6, 20, 0, 22] = some 139 := by decide +kernel
theorem tktv_7_24 : tblAt cX12_init 139 24 [23, 22, 0, 26, 26] = some 168 := by decide +kernel
theorem tktv_7 : tblAt cX12_init 9 0 tv_7 = some 168 := (tbl_app [-1, 0, 1, 2, 1, 1] _ _ tktv_7_0 (tbl_app [0, 6, 7, 6, 9, 10] _ _ tktv_7_6 (tbl_app [9, 9, 9, 6, 15, 15] _ _ tktv_7_12 (tbl_app [15, 18, 6, 20, 0, 22] _ _ tktv_7_18 tktv_7_24))))
def tv_174 : List Int32 := [0, 0, 0, 0, 0, 0, 0, 1, 1, 1, 1, 2, 2, 2, 3, 3, 3, 4, 5, 5, 5, 6, 6, 6, 6, 7, 8, 8, 8, 9, 9, 9, 9, 10, 10, 10, 11, 12, 13, 14, 14, 15, 15, 16, 16, 17, 17, 18, 19, 20, 20, 20, 22, 23, 23, 24, 24, 25, 26, 26, 26, 27, 0, 0, 0]
theorem tktv_174_0 : tblAt cX12_init 176 0 [0, 0, 0, 0, 0, 0] = some 200 := by decide +kernel
theorem tktv_174_6 : tblAt cX12_init 200 6 [0, 1, 1, 1, 1, 2] = some 230 := by decide +kernel
theorem tktv_174_12 : tblAt cX12_init 230 12 [2, 2, 3, 3, 3, 4] = some 260 := by decide +kernel
theorem tktv_174_18 : tblAt cX12_init 260 18 [5, 5, 5, 6, 6, 6] = some 293 := by decide +kernel
theorem tktv_174_24 : tblAt cX12_init 293 24 [6, 7, 8, 8, 8, 9] = some 329 := by decide +kernel
theorem tktv_174_30 : tblAt cX12_init 329 30 [9, 9, 9, 10, 10, 10] = some 365 := by decide +kernel
theorem tktv_174_36 : tblAt cX12_init 365 36 [11, 12, 13, 14, 14, 15] = some 401 := by decide +kernel
theorem tktv_174_42 : tblAt cX12_init 401 42 [15, 16, 16, 17, 17, 18] = some 437 := by decide +kernel
theorem tktv_174_48 : tblAt cX12_init 437 48 [19, 20, 20, 20, 22, 23] = some 473 := by decide +kernel
theorem tktv_174_54 : tblAt cX12_init 473 54 [23, 24, 24, 25, 26, 26] = some 509 := by decide +kernel
theorem tktv_174_60 : tblAt cX12_init 509 60 [26, 27, 0, 0, 0] = some 536 := by decide +kernel
theorem tktv_174 : tblAt cX12_init 176 0 tv_174 = some 536 := (tbl_app [0, 0, 0, 0, 0, 0] _ _ tktv_174_0 (tbl_app [0, 1, 1, 1, 1, 2] _ _ tktv_174_6 (tbl_app [2, 2, 3, 3, 3, 4] _ _ tktv_174_12 (tbl_app [5, 5, 5, 6, 6, 6] _ _ tktv_174_18 (tbl_app [6, 7, 8, 8, 8, 9] _ _ tktv_174_24 (tbl_app [9, 9, 9, 10, 10, 10] _ _ tktv_174_30 (tbl_app [11, 12, 13, 14, 14, 15] _ _ tktv_174_36 (tbl_app [15, 16, 16, 17, 17, 18] _ _ tktv_174_42 (tbl_app [19, 20, 20, 20, 22, 23] _ _ tktv_174_48 (tbl_app [23, 24, 24, 25, 26, 26] _ _ tktv_174_54 tktv_174_60))))))))))
def tv_543 : List Int32 := [98, 97, 116, 116, 101, 114, 121, 0, 99, 101, 108, 108, 112, 97, 99, 107, 0, 116, 97, 110, 107, 0, 114, 101, 99, 111, 114, 100, 101, 114, 0, 104, 101, 97, 116, 101, 114, 0, 116, 104, 101, 114, 109, 111, 0, 103, 121, 114, 111, 0, 102, 105, 110, 101, 103, 121, 114, 111, 0, 115, 117, 110, 101, 121, 101, 0, 112, 114, 111, 98, 101, 0, 99, 97, 109, 101, 114, 97, 0, 119, 104, 101, 101, 108, 0, 99, 111, 105, 108, 0, 106, 101, 116, 0, 112, 117, 108, 115, 101, 114, 0, 114, 97, 100, 105, 111, 0, 98, 101, 97, 99, 111, 110, 0, 112, 97, 110, 101, 108, 0, 116, 114, 97, 99, 107, 101, 114, 0, 114, 101, 97, 99, 116, 111, 114, 0, 112, 105, 112, 101, 0, 104, 111, 115, 101, 0]
theorem tktv_543_0 : tblAt cX12_init 545 0 [98, 97, 116, 116, 101, 114] = some 575 := by decide +kernel
theorem tktv_543_6 : tblAt cX12_init 575 6 [121, 0, 99, 101, 108, 108] = some 610 := by decide +kernel
theorem tktv_543_12 : tblAt cX12_init 610 12 [112, 97, 99, 107, 0, 116] = some 645 := by decide +kernel
theorem tktv_543_18 : tblAt cX12_init 645 18 [97, 110, 107, 0, 114, 101] = some 680 := by decide +kernel
theorem tktv_543_24 : tblAt cX12_init 680 24 [99, 111, 114, 100, 101, 114] = some 716 := by decide +kernel
theorem tktv_543_30 : tblAt cX12_init 716 30 [0, 104, 101, 97, 116, 101] = some 751 := by decide +kernel
theorem tktv_543_36 : tblAt cX12_init 751 36 [114, 0, 116, 104, 101, 114] = some 786 := by decide +kernel
theorem tktv_543_42 : tblAt cX12_init 786 42 [109, 111, 0, 103, 121, 114] = some 821 := by decide +kernel
theorem tktv_543_48 : tblAt cX12_init 821 48 [111, 0, 102, 105, 110, 101] = some 856 := by decide +kernel
theorem tktv_543_54 : tblAt cX12_init 856 54 [103, 121, 114, 111, 0, 115] = some 891 := by decide +kernel
theorem tktv_543_60 : tblAt cX12_init 891 60 [117, 110, 101, 121, 101, 0] = some 926 := by decide +kernel
theorem tktv_543_66 : tblAt cX12_init 926 66 [112, 114, 111, 98, 101, 0] = some 961 := by decide +kernel
theorem tktv_543_72 : tblAt cX12_init 961 72 [99, 97, 109, 101, 114, 97] = some 997 := by decide +kernel
theorem tktv_543_78 : tblAt cX12_init 997 78 [0, 119, 104, 101, 101, 108] = some 1032 := by decide +kernel
theorem tktv_543_84 : tblAt cX12_init 1032 84 [0, 99, 111, 105, 108, 0] = some 1066 := by decide +kernel
theorem tktv_543_90 : tblAt cX12_init 1066 90 [106, 101, 116, 0, 112, 117] = some 1101 := by decide +kernel
theorem tktv_543_96 : tblAt cX12_init 1101 96 [108, 115, 101, 114, 0, 114] = some 1136 := by decide +kernel
theorem tktv_543_102 : tblAt cX12_init 1136 102 [97, 100, 105, 111, 0, 98] = some 1171 := by decide +kernel
theorem tktv_543_108 : tblAt cX12_init 1171 108 [101, 97, 99, 111, 110, 0] = some 1206 := by decide +kernel
theorem tktv_543_114 : tblAt cX12_init 1206 114 [112, 97, 110, 101, 108, 0] = some 1241 := by decide +kernel
theorem tktv_543_120 : tblAt cX12_init 1241 120 [116, 114, 97, 99, 107, 101] = some 1277 := by decide +kernel
theorem tktv_543_126 : tblAt cX12_init 1277 126 [114, 0, 114, 101, 97, 99] = some 1316 := by decide +kernel
theorem tktv_543_132 : tblAt cX12_init 1316 132 [116, 111, 114, 0, 112, 105] = some 1357 := by decide +kernel
theorem tktv_543_138 : tblAt cX12_init 1357 138 [112, 101, 0, 104, 111, 115] = some 1398 := by decide +kernel
theorem tktv_543_144 : tblAt cX12_init 1398 144 [101, 0] = some 1411 := by decide +kernel
theorem tktv_543 : tblAt cX12_init 545 0 tv_543 = some 1411 := (tbl_app [98, 97, 116, 116, 101, 114] _ _ tktv_543_0 (tbl_app [121, 0, 99, 101, 108, 108] _ _ tktv_543_6 (tbl_app [112, 97, 99, 107, 0, 116] _ _ tktv_543_12 (tbl_app [97, 110, 107, 0, 114, 101] _ _ tktv_543_18 (tbl_app [99, 111, 114, 100, 101, 114] _ _ tktv_543_24 (tbl_app [0, 104, 101, 97, 116, 101] _ _ tktv_543_30 (tbl_app [114, 0, 116, 104, 101, 114] _ _ tktv_543_36 (tbl_app [109, 111, 0, 103, 121, 114] _ _ tktv_543_42 (tbl_app [111, 0, 102, 105, 110, 101] _ _ tktv_543_48 (tbl_app [103, 121, 114, 111, 0, 115] _ _ tktv_543_54 (tbl_app [117, 110, 101, 121, 101, 0] _ _ tktv_543_60 (tbl_app [112, 114, 111, 98, 101, 0] _ _ tktv_543_66 (tbl_app [99, 97, 109, 101, 114, 97] _ _ tktv_543_72 (tbl_app [0, 119, 104, 101, 101, 108] _ _ tktv_543_78 (tbl_app [0, 99, 111, 105, 108, 0] _ _ tktv_543_84 (tbl_app [106, 101, 116, 0, 112, 117] _ _ tktv_543_90 (tbl_app [108, 115, 101, 114, 0, 114] _ _ tktv_543_96 (tbl_app [97, 100, 105, 111, 0, 98] _ _ tktv_543_102 (tbl_app [101, 97, 99, 111, 110, 0] _ _ tktv_543_108 (tbl_app [112, 97, 110, 101, 108, 0] _ _ tktv_543_114 (tbl_app [116, 114, 97, 99, 107, 101] _ _ tktv_543_120 (tbl_app [114, 0, 114, 101, 97, 99] _ _ tktv_543_126 (tbl_app [116, 111, 114, 0, 112, 105] _ _ tktv_543_132 (tbl_app [112, 101, 0, 104, 111, 115] _ _ tktv_543_138 tktv_543_144))))))))))))))))))))))))
def tv_1417 : List Int32 := [2, 3, 4, 5, 7, 8, 10, 11, 12, 13, 14, 16, 17, 18, 19, 20, 21, 23, 24, 25, 27, 28]
theorem tktv_1417_0 : tblAt cX12_init 1419 0 [2, 3, 4, 5, 7, 8] = some 1445 := by decide +kernel
theorem tktv_1417_6 : tblAt cX12_init 1445 6 [10, 11, 12, 13, 14, 16] = some 1481 := by decide +kernel
theorem tktv_1417_12 : tblAt cX12_init 1481 12 [17, 18, 19, 20, 21, 23] = some 1517 := by decide +kernel
theorem tktv_1417_18 : tblAt cX12_init 1517 18 [24, 25, 27, 28] = some 1541 := by decide +kernel
theorem tktv_1417 : tblAt cX12_init 1419 0 tv_1417 = some 1541 := (tbl_app [2, 3, 4, 5, 7, 8] _ _ tktv_1417_0 (tbl_app [10, 11, 12, 13, 14, 16] _ _ tktv_1417_6 (tbl_app [17, 18, 19, 20, 21, 23] _ _ tktv_1417_12 tktv_1417_18)))
def tv_1547 : List Int32 := [97, 116, 0, 101, 97, 99, 104, 0, 119, 104, 101, 110, 0, 108, 101, 118, 101, 108, 0, 104, 101, 97, 116, 0, 115, 112, 101, 101, 100, 0, 114, 101, 97, 100, 105, 110, 103, 0, 108, 105, 103, 104, 116, 0, 97, 110, 103, 108, 101, 0, 114, 97, 116, 101, 0, 111, 110, 0, 111, 102, 102, 0, 109, 111, 100, 101, 0, 97, 105, 109, 0, 114, 101, 115, 116, 97, 114, 116, 0, 119, 105, 112, 101, 0, 115, 116, 111, 112, 0]
theorem tktv_1547_0 : tblAt cX12_init 1549 0 [97, 116, 0, 101, 97, 99] = some 1578 := by decide +kernel
theorem tktv_1547_6 : tblAt cX12_init 1578 6 [104, 0, 119, 104, 101, 110] = some 1613 := by decide +kernel
theorem tktv_1547_12 : tblAt cX12_init 1613 12 [0, 108, 101, 118, 101, 108] = some 1648 := by decide +kernel
theorem tktv_1547_18 : tblAt cX12_init 1648 18 [0, 104, 101, 97, 116, 0] = some 1682 := by decide +kernel
theorem tktv_1547_24 : tblAt cX12_init 1682 24 [115, 112, 101, 101, 100, 0] = some 1717 := by decide +kernel
theorem tktv_1547_30 : tblAt cX12_init 1717 30 [114, 101, 97, 100, 105, 110] = some 1753 := by decide +kernel
theorem tktv_1547_36 : tblAt cX12_init 1753 36 [103, 0, 108, 105, 103, 104] = some 1788 := by decide +kernel
theorem tktv_1547_42 : tblAt cX12_init 1788 42 [116, 0, 97, 110, 103, 108] = some 1823 := by decide +kernel
theorem tktv_1547_48 : tblAt cX12_init 1823 48 [101, 0, 114, 97, 116, 101] = some 1858 := by decide +kernel
theorem tktv_1547_54 : tblAt cX12_init 1858 54 [0, 111, 110, 0, 111, 102] = some 1892 := by decide +kernel
theorem tktv_1547_60 : tblAt cX12_init 1892 60 [102, 0, 109, 111, 100, 101] = some 1927 := by decide +kernel
theorem tktv_1547_66 : tblAt cX12_init 1927 66 [0, 97, 105, 109, 0, 114] = some 1961 := by decide +kernel
theorem tktv_1547_72 : tblAt cX12_init 1961 72 [101, 115, 116, 97, 114, 116] = some 1997 := by decide +kernel
theorem tktv_1547_78 : tblAt cX12_init 1997 78 [0, 119, 105, 112, 101, 0] = some 2031 := by decide +kernel
theorem tktv_1547_84 : tblAt cX12_init 2031 84 [115, 116, 111, 112, 0] = some 2060 := by decide +kernel
theorem tktv_1547 : tblAt cX12_init 1549 0 tv_1547 = some 2060 := (tbl_app [97, 116, 0, 101, 97, 99] _ _ tktv_1547_0 (tbl_app [104, 0, 119, 104, 101, 110] _ _ tktv_1547_6 (tbl_app [0, 108, 101, 118, 101, 108] _ _ tktv_1547_12 (tbl_app [0, 104, 101, 97, 116, 0] _ _ tktv_1547_18 (tbl_app [115, 112, 101, 101, 100, 0] _ _ tktv_1547_24 (tbl_app [114, 101, 97, 100, 105, 110] _ _ tktv_1547_30 (tbl_app [103, 0, 108, 105, 103, 104] _ _ tktv_1547_36 (tbl_app [116, 0, 97, 110, 103, 108] _ _ tktv_1547_42 (tbl_app [101, 0, 114, 97, 116, 101] _ _ tktv_1547_48 (tbl_app [0, 111, 110, 0, 111, 102] _ _ tktv_1547_54 (tbl_app [102, 0, 109, 111, 100, 101] _ _ tktv_1547_60 (tbl_app [0, 97, 105, 109, 0, 114] _ _ tktv_1547_66 (tbl_app [101, 115, 116, 97, 114, 116] _ _ tktv_1547_72 (tbl_app [0, 119, 105, 112, 101, 0] _ _ tktv_1547_78 tktv_1547_84))))))))))))))
def tv_2268 : List Int32 := [100, 99, 96, 91, 84, 75, 64, 51, 38, 25, 14, 6, 2, 0, 0, 0]
theorem tktv_2268_0 : tblAt cX12_init 2270 0 [100, 99, 96, 91, 84, 75] = some 2300 := by decide +kernel
theorem tktv_2268_6 : tblAt cX12_init 2300 6 [64, 51, 38, 25, 14, 6] = some 2336 := by decide +kernel
theorem tktv_2268_12 : tblAt cX12_init 2336 12 [2, 0, 0, 0] = some 2356 := by decide +kernel
theorem tktv_2268 : tblAt cX12_init 2270 0 tv_2268 = some 2356 := (tbl_app [100, 99, 96, 91, 84, 75] _ _ tktv_2268_0 (tbl_app [64, 51, 38, 25, 14, 6] _ _ tktv_2268_6 tktv_2268_12))
