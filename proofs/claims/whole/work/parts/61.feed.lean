/-! T3: the tape. by4 x k: byte k of a number, the highest first -/
def by4 (x : Int32) (k : Nat) : Int32 := iU x (nI (24 - 8 * k)) &&& 255
theorem uI_same {I : MI} {a k : Nat} {v : Int32} : uI I a k v a k = v := by simp [uI]
theorem uI_at {I : MI} {a k o p : Nat} {v : Int32} (h : ¬ (o = a ∧ p = k)) : uI I a k v o p = I o p := by simp [uI, h]
theorem append_step {N k n pb : Nat} {c : MI} {L : ML} {x y : Int32} (hc : c 4 1 = nI n) (hn : n < 4000) (hy : ¬ y < 0) :
    LF_X8_append_3 N (k + 1) 4 x y c L (GRf pb) = LF_X8_append_3 N k 4 x (y + (-8)) (uI (uI c 5 n (iU x y &&& 255)) 4 1 (nI (n + 1))) L (GRf pb) := by
  rw [LF_X8_append_3, if_neg hy, rf_4_0]
  have h1 : ¬ Int32.ofNat (ln 5) ≤ c 4 1 := by rw [hc, ln_5]; exact nI_ge hn (by decide)
  simp only [Option.bind_some]
  rw [if_neg h1, hc, wi_nI ln_5 hn (by decide)]
  simp only [Option.bind_some, wr]
  rw [uI_at (by omega), hc, nI_1]
theorem append_end {N k : Nat} {pb : Nat} {c : MI} {L : ML} {x y : Int32} (hy : y < 0) : LF_X8_append_3 N (k + 1) 4 x y c L (GRf pb) = some c := by
  rw [LF_X8_append_3, if_pos hy]
theorem append_eq {N pb : Nat} {c : MI} {L : ML} {x : Int32} : F_X8_append N 4 x c L (GRf pb) = LF_X8_append_3 N N 4 x 24 c L (GRf pb) := by
  simp [F_X8_append, ck_4, bn1]
theorem append_ok {N n pb : Nat} {c : MI} {L : ML} (x : Int32) (hN : 5 ≤ N) (hn : n + 4 ≤ 4000) (hc : c 4 1 = nI n) :
    ∃ c', F_X8_append N 4 x c L (GRf pb) = some c' ∧ c' 4 1 = nI (n + 4) ∧ (∀ k, k < 4 → c' 5 (n + k) = by4 x k) ∧ (∀ j, j < n → c' 5 j = c 5 j) ∧ ∀ o p, o ≠ 5 → ¬ (o = 4 ∧ p = 1) → c' o p = c o p := by
  obtain ⟨k, rfl⟩ : ∃ k, N = k + 5 := ⟨N - 5, by omega⟩
  refine ⟨_, append_eq.trans ((append_step hc (by omega) (by decide)).trans ((append_step (n := n + 1) uI_same (by omega) (by decide)).trans ((append_step (n := n + 2) uI_same (by omega) (by decide)).trans ((append_step (n := n + 3) uI_same (by omega) (by decide)).trans (append_end (by decide)))))), uI_same, ?_, ?_, ?_⟩
  · intro j hj
    rcases (show j = 0 ∨ j = 1 ∨ j = 2 ∨ j = 3 by omega) with rfl | rfl | rfl | rfl
    · simp [uI, by4]; rfl
    · simp [uI, by4]; rfl
    · simp [uI, by4]; rfl
    · simp [uI, by4]; rfl
  · intro j hj
    simp only [uI]
    rw [if_neg (by omega), if_neg (by omega), if_neg (by omega), if_neg (by omega), if_neg (by omega), if_neg (by omega), if_neg (by omega), if_neg (by omega)]
  · intro o p h1 h2
    simp only [uI]
    rw [if_neg (by omega), if_neg (by omega), if_neg (by omega), if_neg (by omega), if_neg (by omega), if_neg (by omega), if_neg (by omega), if_neg (by omega)]
theorem iA_iU (x : Int32) (k : Nat) (hk : k < 4) : iA x ((24 : Int32) - (8 : Int32) * nI k) &&& 255 = by4 x k := by
  have key : ∀ (s : Int32) (d : Nat), (d = 24 ∨ d = 16 ∨ d = 8 ∨ d = 0) → ((s &&& 31).toBitVec.smod 32).toNat = d → ((s.toUInt32 &&& Int32.toUInt32 31).toBitVec % 32).toNat = d → iA x s &&& 255 = iU x s &&& 255 := by
    intro s d hd h1 h2
    rw [pk_and (iA x s) 8 (by decide), pk_and (iU x s) 8 (by decide)]
    have e1 : (iA x s).toInt = x.toInt >>> d := pk_shr x (s &&& 31) d h1
    have e2 : (iU x s).toBitVec.toNat = x.toBitVec.toNat / 2 ^ d := pk_ushr x s d h2
    rw [e2]
    congr 1
    have e3 : (iA x s).toInt = (iA x s).toBitVec.toInt := rfl
    have e4 : x.toInt = x.toBitVec.toInt := rfl
    rw [e3, e4, BitVec.toInt_eq_toNat_cond, BitVec.toInt_eq_toNat_cond, Int.shiftRight_eq_div_pow] at e1
    have b1 := (iA x s).toBitVec.isLt
    have b2 := x.toBitVec.isLt
    rcases hd with rfl | rfl | rfl | rfl <;> (split at e1 <;> split at e1 <;> omega)
  rcases (show k = 0 ∨ k = 1 ∨ k = 2 ∨ k = 3 by omega) with rfl | rfl | rfl | rfl
  · exact key 24 24 (by decide) (by decide) (by decide)
  · exact key 16 16 (by decide) (by decide) (by decide)
  · exact key 8 8 (by decide) (by decide) (by decide)
  · exact key 0 0 (by decide) (by decide) (by decide)
