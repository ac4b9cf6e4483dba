/-! T3: the tape. by4 x k: byte k of a number, the highest first -/
def by4 (x : Int32) (k : Nat) : Int32 := iU x (nI (24 - 8 * k)) &&& 255
theorem uI_same {I : MI} {a k : Nat} {v : Int32} : uI I a k v a k = v := by simp [uI]
theorem uI_at {I : MI} {a k o p : Nat} {v : Int32} (h : ¬ (o = a ∧ p = k)) : uI I a k v o p = I o p := by simp [uI, h]
theorem uI_hit {I : MI} {a k p : Nat} {v : Int32} (h : p = k) : uI I a k v a p = v := by subst h; exact uI_same
theorem append_step {N k n pb : Nat} {c : MI} {L : ML} {x y : Int32} (hc : c 4 1 = nI n) (hn : n < 4000) (hy : ¬ y < 0) :
    LF_X8_append_3 N (k + 1) 4 x y c L (GRf pb) = LF_X8_append_3 N k 4 x (y + (-8)) (uI (uI c 5 n (iU x y &&& 255)) 4 1 (nI (n + 1))) L (GRf pb) := by
  rw [LF_X8_append_3, if_neg hy, rf_4_0]
  have h1 : ¬ Int32.ofNat (ln 5) ≤ c 4 1 := by rw [hc, ln_5]; exact nI_ge hn (by decide)
  simp only [Option.bind_some]
  rw [if_neg h1, hc, wi_nI ln_5 hn (by decide)]
  simp only [Option.bind_some, wr]
  rw [uI_at (by omega), hc, nI_1]
theorem append_end {N k : Nat} {pb : Nat} {c : MI} {L : ML} {x y : Int32} (hy : y < 0) : LF_X8_append_3 N (k + 1) 4 x y c L (GRf pb) = some c := by
  rw [LF_X8_append_3, if_pos hy]
theorem append_eq {N pb : Nat} {c : MI} {L : ML} {x : Int32} : F_X8_append N 4 x c L (GRf pb) = LF_X8_append_3 N N 4 x 24 c L (GRf pb) := by
  simp [F_X8_append, ck_4, bn1]
theorem append_ok {N n pb : Nat} {c : MI} {L : ML} (x : Int32) (hN : 5 ≤ N) (hn : n + 4 ≤ 4000) (hc : c 4 1 = nI n) :
    ∃ c', F_X8_append N 4 x c L (GRf pb) = some c' ∧ c' 4 1 = nI (n + 4) ∧ (∀ k, k < 4 → c' 5 (n + k) = by4 x k) ∧ (∀ j, j < n → c' 5 j = c 5 j) ∧ ∀ o p, o ≠ 5 → ¬ (o = 4 ∧ p = 1) → c' o p = c o p := by
  obtain ⟨k, rfl⟩ : ∃ k, N = k + 5 := ⟨N - 5, by omega⟩
  refine ⟨_, append_eq.trans ((append_step hc (by omega) (by decide)).trans ((append_step (n := n + 1) uI_same (by omega) (by decide)).trans ((append_step (n := n + 2) uI_same (by omega) (by decide)).trans ((append_step (n := n + 3) uI_same (by omega) (by decide)).trans (append_end (by decide)))))), uI_same, ?_, ?_, ?_⟩
  · intro j hj
    rcases (show j = 0 ∨ j = 1 ∨ j = 2 ∨ j = 3 by omega) with rfl | rfl | rfl | rfl
    · simp [uI, by4]; rfl
    · simp [uI, by4]; rfl
    · simp [uI, by4]; rfl
    · simp [uI, by4]; rfl
  · intro j hj
    simp only [uI]
    rw [if_neg (by omega), if_neg (by omega), if_neg (by omega), if_neg (by omega), if_neg (by omega), if_neg (by omega), if_neg (by omega), if_neg (by omega)]
  · intro o p h1 h2
    simp only [uI]
    rw [if_neg (by omega), if_neg (by omega), if_neg (by omega), if_neg (by omega), if_neg (by omega), if_neg (by omega), if_neg (by omega), if_neg (by omega)]
theorem iA_iU (x : Int32) (k : Nat) (hk : k < 4) : iA x ((24 : Int32) - (8 : Int32) * nI k) &&& 255 = by4 x k := by
  have key : ∀ (s : Int32) (d : Nat), (d = 24 ∨ d = 16 ∨ d = 8 ∨ d = 0) → ((s &&& 31).toBitVec.smod 32).toNat = d → ((s.toUInt32 &&& Int32.toUInt32 31).toBitVec % 32).toNat = d → iA x s &&& 255 = iU x s &&& 255 := by
    intro s d hd h1 h2
    rw [pk_and (iA x s) 8 (by decide), pk_and (iU x s) 8 (by decide)]
    have e1 : (iA x s).toInt = x.toInt >>> d := pk_shr x (s &&& 31) d h1
    have e2 : (iU x s).toBitVec.toNat = x.toBitVec.toNat / 2 ^ d := pk_ushr x s d h2
    rw [e2]
    congr 1
    have e3 : (iA x s).toInt = (iA x s).toBitVec.toInt := rfl
    have e4 : x.toInt = x.toBitVec.toInt := rfl
    rw [e3, e4, BitVec.toInt_eq_toNat_cond, BitVec.toInt_eq_toNat_cond, Int.shiftRight_eq_div_pow] at e1
    have b1 := (iA x s).toBitVec.isLt
    have b2 := x.toBitVec.isLt
    rcases hd with rfl | rfl | rfl | rfl <;> (split at e1 <;> split at e1 <;> omega)
  rcases (show k = 0 ∨ k = 1 ∨ k = 2 ∨ k = 3 by omega) with rfl | rfl | rfl | rfl
  · exact key 24 24 (by decide) (by decide) (by decide)
  · exact key 16 16 (by decide) (by decide) (by decide)
  · exact key 8 8 (by decide) (by decide) (by decide)
  · exact key 0 0 (by decide) (by decide) (by decide)
/-- five bytes of the reference's tape -/
def five (m : MI) (n k : Nat) (a b c d e : Int32) : MI := uI (uI (uI (uI (uI m 30 (n + k) (by4 a k)) 30 (n + 4 + k) (by4 b k)) 30 (n + 8 + k) (by4 c k)) 30 (n + 12 + k) (by4 d k)) 30 (n + 16 + k) (by4 e k)
theorem five_24 {m : MI} {n k : Nat} {a b c d e : Int32} {p : Nat} : five m n k a b c d e 24 p = m 24 p := by
  simp [five, uI]
theorem feedM_step {N j n k pb : Nat} {m : MI} {L : ML} {a b c d e : Int32} (hm : m 24 7 = nI n) (hn : n + 20 ≤ 4000) (hk : k < 4) :
    LF_X12_feed_23 N (j + 1) 24 a b c d e (nI k) m L (GRf pb) = LF_X12_feed_23 N j 24 a b c d e (nI (k + 1)) (five m n k a b c d e) L (GRf pb) := by
  rw [LF_X12_feed_23, if_neg (show ¬ (4 : Int32) ≤ nI k from nI_ge hk (by decide))]
  simp only [wr, rf_24_6, Option.bind_some, iA_iU _ k hk]
  have w : ∀ (q : MI) (i : Nat) (x : Int32), i < 4000 → wi q 30 (nI i) x = some (uI q 30 i x) := fun q i x hi => wi_nI ln_30 hi (by decide)
  rw [hm, show nI n + nI k = nI (n + k) from nI_add n k, w _ _ _ (by omega)]
  simp only [Option.bind_some]
  rw [uI_at (by omega), hm, show nI n + 4 + nI k = nI (n + 4 + k) by rw [show (4 : Int32) = nI 4 from rfl, nI_add, nI_add], w _ _ _ (by omega)]
  simp only [Option.bind_some]
  rw [uI_at (by omega), uI_at (by omega), hm, show nI n + 8 + nI k = nI (n + 8 + k) by rw [show (8 : Int32) = nI 8 from rfl, nI_add, nI_add], w _ _ _ (by omega)]
  simp only [Option.bind_some]
  rw [uI_at (by omega), uI_at (by omega), uI_at (by omega), hm, show nI n + 12 + nI k = nI (n + 12 + k) by rw [show (12 : Int32) = nI 12 from rfl, nI_add, nI_add], w _ _ _ (by omega)]
  simp only [Option.bind_some]
  rw [uI_at (by omega), uI_at (by omega), uI_at (by omega), uI_at (by omega), hm, show nI n + 16 + nI k = nI (n + 16 + k) by rw [show (16 : Int32) = nI 16 from rfl, nI_add, nI_add], w _ _ _ (by omega)]
  simp only [Option.bind_some, nI_1]
  rfl
theorem feedM_end {N j pb : Nat} {m : MI} {L : ML} {a b c d e : Int32} : LF_X12_feed_23 N (j + 1) 24 a b c d e (nI 4) m L (GRf pb) = some m := by
  rw [LF_X12_feed_23, if_pos (show (4 : Int32) ≤ nI 4 by decide)]
theorem feedM_loop {N n pb : Nat} {m : MI} {L : ML} {a b c d e : Int32} (hN : 5 ≤ N) (hm : m 24 7 = nI n) (hn : n + 20 ≤ 4000) :
    ∃ m', LF_X12_feed_23 N N 24 a b c d e 0 m L (GRf pb) = some m' ∧ (∀ p, m' 24 p = m 24 p) ∧ (∀ j, j < n → m' 30 j = m 30 j) ∧ (∀ k, k < 4 → m' 30 (n + k) = by4 a k ∧ m' 30 (n + 4 + k) = by4 b k ∧ m' 30 (n + 8 + k) = by4 c k ∧ m' 30 (n + 12 + k) = by4 d k ∧ m' 30 (n + 16 + k) = by4 e k) ∧ ∀ o p, o ≠ 30 → m' o p = m o p := by
  obtain ⟨k, rfl⟩ : ∃ k, N = k + 5 := ⟨N - 5, by omega⟩
  refine ⟨_, (feedM_step (k := 0) hm hn (by decide)).trans ((feedM_step (k := 1) (five_24.trans hm) hn (by decide)).trans ((feedM_step (k := 2) (five_24.trans (five_24.trans hm)) hn (by decide)).trans ((feedM_step (k := 3) (five_24.trans (five_24.trans (five_24.trans hm))) hn (by decide)).trans feedM_end))), fun p => by rw [five_24, five_24, five_24, five_24], ?_, ?_, ?_⟩
  · intro j hj
    have h : ∀ (q : MI) (k : Nat), five q n k a b c d e 30 j = q 30 j := by
      intro q k
      simp only [five, uI]
      rw [if_neg (by omega), if_neg (by omega), if_neg (by omega), if_neg (by omega), if_neg (by omega)]
    rw [h, h, h, h]
  · intro j hj
    have hi : ∀ (q : MI) (k i : Nat), k < 4 → i < 5 → j ≠ k → five q n k a b c d e 30 (n + 4 * i + j) = q 30 (n + 4 * i + j) := by
      intro q k i h1 h2 h3
      simp only [five, uI]
      rw [if_neg (by omega), if_neg (by omega), if_neg (by omega), if_neg (by omega), if_neg (by omega)]
    have hs : ∀ (q : MI), five q n j a b c d e 30 (n + 4 * 0 + j) = by4 a j ∧ five q n j a b c d e 30 (n + 4 * 1 + j) = by4 b j ∧ five q n j a b c d e 30 (n + 4 * 2 + j) = by4 c j ∧ five q n j a b c d e 30 (n + 4 * 3 + j) = by4 d j ∧ five q n j a b c d e 30 (n + 4 * 4 + j) = by4 e j := by
      intro q
      unfold five
      refine ⟨?_, ?_, ?_, ?_, ?_⟩
      · rw [uI_at (by omega), uI_at (by omega), uI_at (by omega), uI_at (by omega), uI_hit (by omega)]
      · rw [uI_at (by omega), uI_at (by omega), uI_at (by omega), uI_hit (by omega)]
      · rw [uI_at (by omega), uI_at (by omega), uI_hit (by omega)]
      · rw [uI_at (by omega), uI_hit (by omega)]
      · rw [uI_hit (by omega)]
    have all : ∀ (i : Nat) (v : Int32), i < 5 → (∀ q : MI, five q n j a b c d e 30 (n + 4 * i + j) = v) → (five (five (five (five m n 0 a b c d e) n 1 a b c d e) n 2 a b c d e) n 3 a b c d e) 30 (n + 4 * i + j) = v := by
      intro i v h5 hv
      rcases (show j = 0 ∨ j = 1 ∨ j = 2 ∨ j = 3 by omega) with rfl | rfl | rfl | rfl
      · rw [hi _ 3 i (by decide) h5 (by decide), hi _ 2 i (by decide) h5 (by decide), hi _ 1 i (by decide) h5 (by decide), hv]
      · rw [hi _ 3 i (by decide) h5 (by decide), hi _ 2 i (by decide) h5 (by decide), hv]
      · rw [hi _ 3 i (by decide) h5 (by decide), hv]
      · rw [hv]
    exact ⟨all 0 _ (by decide) (fun q => (hs q).1), all 1 _ (by decide) (fun q => (hs q).2.1), all 2 _ (by decide) (fun q => (hs q).2.2.1), all 3 _ (by decide) (fun q => (hs q).2.2.2.1), all 4 _ (by decide) (fun q => (hs q).2.2.2.2)⟩
  · intro o p h
    have h1 : ∀ (q : MI) (k : Nat), five q n k a b c d e o p = q o p := by
      intro q k
      simp only [five, uI]
      rw [if_neg (by omega), if_neg (by omega), if_neg (by omega), if_neg (by omega), if_neg (by omega)]
    rw [h1, h1, h1, h1]
/-- the tape and the latest fault, alike on both sides -/
def RT (c m : MI) : Prop := ∃ n : Nat, n ≤ 4000 ∧ c 4 1 = nI n ∧ m 24 7 = nI n ∧ (∀ j, j < n → c 5 j = m 30 j ∧ ∃ b, b < 256 ∧ m 30 j = nI b) ∧ c 4 8 = m 24 15 ∧ c 4 9 = m 24 16
theorem by4_lt (x : Int32) (k : Nat) : ∃ b, b < 256 ∧ by4 x k = nI b := by
  obtain ⟨b, h1, h2⟩ := pk_andE (iU x (nI (24 - 8 * k))) (m := 255) 8 (by decide)
  exact ⟨b, h1, h2⟩
theorem feed_sim {N pb : Nat} {c m : MI} {L : ML} (a1 a2 a3 a4 a5 : Int32) (hN : 5 ≤ N) (h : RT c m) :
    ∃ r c' m', F_X11_feed N 0 a1 a2 a3 a4 a5 c L (GRf pb) = some (r, c') ∧ F_X12_feed N 24 a1 a2 a3 a4 a5 m L (GRf pb) = some (r, m') ∧ RT c' m' ∧ (∀ o p, o ≠ 5 → ¬ (o = 4 ∧ p = 1) → c' o p = c o p) ∧ (∀ o p, o ≠ 30 → ¬ (o = 24 ∧ (p = 5 ∨ p = 7)) → m' o p = m o p) ∧ m' 24 5 = 0 := by
  obtain ⟨n, hn, hc, hm, hb, hf, hp⟩ := h
  by_cases hr : n + 20 ≤ 4000
  · obtain ⟨c1, e1, l1, b1, k1, o1⟩ := append_ok (pb := pb) (L := L) a1 hN (by omega) hc
    obtain ⟨c2, e2, l2, b2, k2, o2⟩ := append_ok (pb := pb) (L := L) a2 hN (by omega) l1
    obtain ⟨c3, e3, l3, b3, k3, o3⟩ := append_ok (pb := pb) (L := L) a3 hN (by omega) l2
    obtain ⟨c4, e4, l4, b4, k4, o4⟩ := append_ok (pb := pb) (L := L) a4 hN (by omega) l3
    obtain ⟨c5, e5, l5, b5, k5, o5⟩ := append_ok (pb := pb) (L := L) a5 hN (by omega) l4
    have hm1 : uI m 24 5 0 24 7 = nI n := by rw [uI_at (by omega)]; exact hm
    obtain ⟨m1, f1, p1, q1, s1, t1⟩ := feedM_loop (pb := pb) (L := L) (a := a1) (b := a2) (c := a3) (d := a4) (e := a5) hN hm1 hr
    have l5' : c5 4 1 = nI (n + 20) := l5
    refine ⟨nI (n + 20), c5, uI m1 24 7 (nI (n + 20)), ?_, ?_, ⟨n + 20, hr, l5', uI_same, ?_, ?_, ?_⟩, ?_, ?_, ?_⟩
    · have hpl : F_X8_hasPlaceFor 4 20 c L (GRf pb) = some true := by
        simp only [F_X8_hasPlaceFor, ck_4, if_true, hc]
        rw [if_neg]
        rw [show nI n + 20 = nI (n + 20) from nI_add n 20]
        exact nI_nlt hr (by decide)
      simp [F_X11_feed, ck_0, rf_0_0, hpl, bn1, b2i, e1, e2, e3, e4, e5, F_X8_size, ck_4, l5']
    · simp only [F_X12_feed, ck_24, if_true, wr]
      rw [hm1, show nI n + 20 = nI (n + 20) from nI_add n 20, if_pos (show nI (n + 20) ≤ 4000 from nI_le hr (by decide)), f1]
      have h7 : m1 24 7 = nI n := (p1 7).trans hm1
      simp only [bn1, Option.bind_some, h7, show nI n + 20 = nI (n + 20) from nI_add n 20, uI_same]
    · intro j hj
      have hmj : uI m1 24 7 (nI (n + 20)) 30 j = m1 30 j := uI_at (by omega)
      rw [hmj]
      by_cases g0 : j < n
      · rw [k5 j (by omega), k4 j (by omega), k3 j (by omega), k2 j (by omega), k1 j g0, q1 j g0, show uI m 24 5 0 30 j = m 30 j from uI_at (by omega)]
        exact hb j g0
      · obtain ⟨k, i, hk, hi, rfl⟩ : ∃ k i, k < 4 ∧ i < 5 ∧ j = n + 4 * i + k := ⟨(j - n) % 4, (j - n) / 4, by omega, by omega, by omega⟩
        obtain ⟨s11, s12, s13, s14, s15⟩ := s1 k hk
        rcases (show i = 0 ∨ i = 1 ∨ i = 2 ∨ i = 3 ∨ i = 4 by omega) with rfl | rfl | rfl | rfl | rfl
        · rw [k5 _ (by omega), k4 _ (by omega), k3 _ (by omega), k2 _ (by omega), show n + 4 * 0 + k = n + k by omega, b1 k hk, s11]
          exact ⟨rfl, by4_lt _ _⟩
        · rw [k5 _ (by omega), k4 _ (by omega), k3 _ (by omega), show n + 4 * 1 + k = n + 4 + k by omega, b2 k hk, s12]
          exact ⟨rfl, by4_lt _ _⟩
        · rw [k5 _ (by omega), k4 _ (by omega), show n + 4 * 2 + k = n + 4 + 4 + k by omega, b3 k hk, show n + 4 + 4 + k = n + 8 + k by omega, s13]
          exact ⟨rfl, by4_lt _ _⟩
        · rw [k5 _ (by omega), show n + 4 * 3 + k = n + 4 + 4 + 4 + k by omega, b4 k hk, show n + 4 + 4 + 4 + k = n + 12 + k by omega, s14]
          exact ⟨rfl, by4_lt _ _⟩
        · rw [show n + 4 * 4 + k = n + 4 + 4 + 4 + 4 + k by omega, b5 k hk, show n + 4 + 4 + 4 + 4 + k = n + 16 + k by omega, s15]
          exact ⟨rfl, by4_lt _ _⟩
    · rw [o5 4 8 (by decide) (by decide), o4 4 8 (by decide) (by decide), o3 4 8 (by decide) (by decide), o2 4 8 (by decide) (by decide), o1 4 8 (by decide) (by decide), hf, uI_at (by omega), p1, uI_at (by omega)]
    · rw [o5 4 9 (by decide) (by decide), o4 4 9 (by decide) (by decide), o3 4 9 (by decide) (by decide), o2 4 9 (by decide) (by decide), o1 4 9 (by decide) (by decide), hp, uI_at (by omega), p1, uI_at (by omega)]
    · intro o p h1 h2
      rw [o5 o p h1 h2, o4 o p h1 h2, o3 o p h1 h2, o2 o p h1 h2, o1 o p h1 h2]
    · intro o p h1 h2
      rw [uI_at (by omega), t1 o p h1, uI_at (by omega)]
    · rw [uI_at (by omega), p1, uI_same]
  · refine ⟨-1, c, uI m 24 5 0, ?_, ?_, ⟨n, hn, hc, by rw [uI_at (by omega)]; exact hm, ?_, by rw [uI_at (by omega)]; exact hf, by rw [uI_at (by omega)]; exact hp⟩, fun _ _ _ _ => rfl, ?_, uI_same⟩
    · have hpl : F_X8_hasPlaceFor 4 20 c L (GRf pb) = some false := by
        simp only [F_X8_hasPlaceFor, ck_4, if_true, hc]
        rw [if_pos]
        rw [show nI n + 20 = nI (n + 20) from nI_add n 20]
        exact nI_lt (a := 4000) (by omega) (by omega)
      simp [F_X11_feed, ck_0, rf_0_0, hpl, bn1, b2i]
    · simp only [F_X12_feed, ck_24, if_true, wr]
      rw [uI_at (by omega), hm, show nI n + 20 = nI (n + 20) from nI_add n 20, if_neg (show ¬ nI (n + 20) ≤ 4000 from nI_ge (a := 4000) (by omega) (by omega))]
    · intro j hj
      rw [uI_at (by omega)]
      exact hb j hj
    · intro o p h1 h2
      rw [uI_at (by omega)]
