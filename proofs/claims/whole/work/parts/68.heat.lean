/-! T3: answers at the relation; heat -/
theorem loop1 {α γ : Type} {f : Nat → Nat → α → Option γ} {R : Nat → α → Prop} {Q : γ → Prop} (n : Nat)
    (he : ∀ k a, R n a → ∃ r, f (k + 1) n a = some r ∧ Q r)
    (hs : ∀ k i a, i < n → R i a → ∃ a', f (k + 1) i a = f k (i + 1) a' ∧ R (i + 1) a') :
    ∀ (d i k : Nat) (a : α), i + d = n → d < k → R i a → ∃ r, f k i a = some r ∧ Q r := by
  intro d
  induction d with
  | zero =>
    intro i k a hi hk h
    obtain ⟨k, rfl⟩ : ∃ z, k = z + 1 := ⟨k - 1, by omega⟩
    have : i = n := by omega
    subst this
    exact he k a h
  | succ d ih =>
    intro i k a hi hk h
    obtain ⟨k, rfl⟩ : ∃ z, k = z + 1 := ⟨k - 1, by omega⟩
    obtain ⟨a', e1, h'⟩ := hs k i a (by omega) h
    rw [e1]
    exact ih (i + 1) k a' (by omega) (by omega) h'
theorem nn.mono {x : Int32} {a b : Nat} (h : nn x a) (hl : a ≤ b) : nn x b := by
  obtain ⟨k, h1, h2⟩ := h
  exact ⟨k, by omega, h2⟩
theorem by_mass_n1 {l x : Int32} {P : Nat → Int32} {K : Nat} (hK : K ≤ 1000000) (h9 : nn (P 9) 2000) (h23 : nn (P 23) 50) (h43 : nn (P 43) 2000) (h61 : nn (P 61) 100) (hx : n1 x K) : n1 (by_mass l P x) (K + 210) := by
  obtain ⟨a, a1, a2⟩ := h9
  obtain ⟨b, b1, b2⟩ := h23
  obtain ⟨d, d1, d2⟩ := h43
  obtain ⟨e, e1, e2⟩ := h61
  obtain ⟨k, k1, k2, k3⟩ := hx
  have q1 : P 9 / 10 = nI (a / 10) := by rw [a2]; exact pk_div (d := 10) (by omega) (by decide) (by decide)
  have q2 : P 23 / 5 = nI (b / 5) := by rw [b2]; exact pk_div (d := 5) (by omega) (by decide) (by decide)
  have q3 : P 43 / 20 = nI (d / 20) := by rw [d2]; exact pk_div (d := 20) (by omega) (by decide) (by decide)
  unfold by_mass
  rw [q1, q2, q3, e2, k3]
  by_cases z0 : l = 0
  · rw [if_pos z0]; exact ⟨5, by omega, by omega, rfl⟩
  rw [if_neg z0]
  by_cases z1 : l = 1
  · rw [if_pos z1]; exact ⟨8 + a / 10, by omega, by omega, nI_add 8 _⟩
  rw [if_neg z1]
  by_cases z2 : l = 6
  · rw [if_pos z2]; exact ⟨k + b / 5, by omega, by omega, nI_add _ _⟩
  rw [if_neg z2]
  by_cases z3 : l = 22
  · rw [if_pos z3]; exact ⟨k + d / 20, by omega, by omega, nI_add _ _⟩
  rw [if_neg z3]
  by_cases z4 : l = 27
  · rw [if_pos z4]; exact ⟨k + e, by omega, by omega, nI_add _ _⟩
  rw [if_neg z4]
  exact ⟨k, k1, by omega, rfl⟩
theorem chn_hd : ∀ c, c < 29 → (chn c).head? = some 0 := by decide +kernel
theorem mass_fold {P : Nat → Int32} (h9 : nn (P 9) 2000) (h23 : nn (P 23) 50) (h43 : nn (P 43) 2000) (h61 : nn (P 61) 100) : ∀ (ls : List Nat) (x : Int32) (K : Nat), K + 210 * ls.length ≤ 1000000 → n1 x K → n1 (foldQ 0 P ls x) (K + 210 * ls.length) := by
  intro ls
  induction ls with
  | nil => intro x K _ h; exact h
  | cons l ls ih =>
    intro x K hK h
    simp only [List.length_cons] at hK
    have e := ih (byQ 0 (nI l) P x) (K + 210) (by omega) (by_mass_n1 (by omega) h9 h23 h43 h61 h)
    rw [show K + 210 * (l :: ls).length = K + 210 + 210 * ls.length by rw [List.length_cons]; omega]
    exact e
theorem mass_n1 {c : Nat} {P : Nat → Int32} (hc : c < 29) (h9 : nn (P 9) 2000) (h23 : nn (P 23) 50) (h43 : nn (P 43) 2000) (h61 : nn (P 61) 100) : n1 (ansV 0 c P) 1000 := by
  have e := chn_hd c hc
  have l := chn_len c hc
  unfold ansV
  cases q : chn c with
  | nil => rw [q] at e; cases e
  | cons a r =>
    rw [q] at e l
    have : a = 0 := Option.some.inj e
    subst this
    have z := mass_fold h9 h23 h43 h61 r 5 5 (by simp only [List.length_cons] at l; omega) ⟨5, by decide, by decide, rfl⟩
    obtain ⟨k, k1, k2, k3⟩ := z
    have e5 : byQ 0 (nI 0) P 0 = 5 := by unfold byQ by_mass; rw [if_pos rfl, if_pos (by decide)]
    refine ⟨k, k1, by simp only [List.length_cons] at l; omega, ?_⟩
    show foldQ 0 P r (byQ 0 (nI 0) P 0) = nI k
    rw [e5]
    exact k3
section P2
variable {N n : Nat} {cd : Nat → Nat} {pb : Nat} {L : ML} {t s0 B D : Nat} {c m : MI}
theorem RC.see {u : Nat} (h : RC n cd pb L t s0 B D c m) (hu : u < n) : ∀ k, k < 65 → seen (cd u) k → (fun k => c (U u + 1) k) k = Pm m u k := by
  intro k hk hs
  have := h.n20
  exact h.1 _ _ _ _ (Or.inl ⟨u, by omega, hk, ⟨hu, hs.1, hs.2.1, hs.2.2.1, fun q => absurd q hs.2.2.2⟩, by unfold U; omega, rfl, rfl⟩) (fun z => absurd z (by unfold U; omega))
theorem RC.massC {u : Nat} (h : RC n cd pb L t s0 B D c m) (hN : 5000 ≤ N) (hu : u < n) : F_X9_mass N (U u) c L (GRf pb) = some (ansV 0 (cd u) (Pm m u)) := by
  rw [massC_ok (by omega) (by have := h.n20; omega) (h.cd29 hu) (h.un hu).2.2.1 (h.un hu).2.2.2.1, ansV_congr (h.cd29 hu) (h.see hu)]
theorem RC.spanC {u : Nat} (h : RC n cd pb L t s0 B D c m) (hN : 5000 ≤ N) (hu : u < n) : F_X9_span N (U u) c L (GRf pb) = some (ansV 1 (cd u) (Pm m u)) := by
  rw [spanC_ok (by omega) (by have := h.n20; omega) (h.cd29 hu) (h.un hu).2.2.1 (h.un hu).2.2.2.1, ansV_congr (h.cd29 hu) (h.see hu)]
theorem RC.needC {u : Nat} (h : RC n cd pb L t s0 B D c m) (hN : 5000 ≤ N) (hu : u < n) : F_X9_need N (U u) c L (GRf pb) = some (ansV 2 (cd u) (Pm m u)) := by
  rw [needC_ok (by omega) (by have := h.n20; omega) (h.cd29 hu) (h.un hu).2.2.1 (h.un hu).2.2.2.1, ansV_congr (h.cd29 hu) (h.see hu)]
theorem RC.testC {u : Nat} (h : RC n cd pb L t s0 B D c m) (hN : 5000 ≤ N) (hu : u < n) : F_X9_test N (U u) c L (GRf pb) = some (ansV 3 (cd u) (Pm m u)) := by
  rw [testC_ok (by omega) (by have := h.n20; omega) (h.cd29 hu) (h.un hu).2.2.1 (h.un hu).2.2.2.1, ansV_congr (h.cd29 hu) (h.see hu)]
theorem RC.channelsC {u : Nat} (h : RC n cd pb L t s0 B D c m) (hN : 5000 ≤ N) (hu : u < n) : F_X9_channels N (U u) c L (GRf pb) = some (ansV 4 (cd u) (Pm m u)) := by
  rw [channelsC_ok (by omega) (by have := h.n20; omega) (h.cd29 hu) (h.un hu).2.2.1 (h.un hu).2.2.2.1, ansV_congr (h.cd29 hu) (h.see hu)]
theorem RC.pushC {u : Nat} (h : RC n cd pb L t s0 B D c m) (hN : 5000 ≤ N) (hu : u < n) : F_X9_push N (U u) c L (GRf pb) = some (ansV 5 (cd u) (Pm m u)) := by
  rw [pushC_ok (by omega) (by have := h.n20; omega) (h.cd29 hu) (h.un hu).2.2.1 (h.un hu).2.2.2.1, ansV_congr (h.cd29 hu) (h.see hu)]
theorem RC.ansM {u q : Nat} (h : RC n cd pb L t s0 B D c m) (hN : 5000 ≤ N) (hu : u < n) (hq : q < 6) : ∃ m', F_X12_answer N 24 (nI u) (nI q) m L (GRf pb) = some (ansV q (cd u) (Pm m u), m') ∧ ∀ o p, o ≠ 41 → m' o p = m o p :=
  ansM_ok (by omega) h.cm (h.lt20 hu) hq (h.cd29 hu) (h.un hu).2.2.2.2.1 ((h.si hu).2.2.2.2.1.mono (by decide)) ((h.si hu).2.2.2.2.2.1.mono (by decide))
theorem RC.massN {u : Nat} (h : RC n cd pb L t s0 B D c m) (hu : u < n) : n1 (ansV 0 (cd u) (Pm m u)) 1000 := mass_n1 (h.cd29 hu) (h.si hu).1 (h.si hu).2.1 (h.si hu).2.2.1 (h.si hu).2.2.2.1
def hsV (X : Nat → Int32) (u : Nat) : Int32 := X (65 * u + 62)
def onV (cd : Nat → Nat) (X : Nat → Int32) (u : Nat) : Bool := isL (cd u) 6 && decide (X (65 * u + 22) = 1)
def aV (q : Nat) (cd : Nat → Nat) (X : Nat → Int32) (u : Nat) : Int32 := ansV q (cd u) (fun k => X (65 * u + k))
def wkV (cd : Nat → Nat) (X : Nat → Int32) (u : Nat) : Int32 := cond (onV cd X u) (aV 2 cd X u * cond (isL (cd u) 7) 4 1) 0
def gnV (cd : Nat → Nat) (X : Nat → Int32) (u : Nat) : Int32 := wkV cd X u * 10 / aV 0 cd X u
def lsV (cd : Nat → Nat) (X : Nat → Int32) (lt : Int32) (u : Nat) : Int32 := (hsV X u - (4 * lt - 250)) / (24 + aV 0 cd X u)
def nblV (X : Nat → Int32) (u : Nat) : Int32 := if u = 0 then 0 else (hsV X (u - 1) - hsV X u) / 16
def nbrV (n : Nat) (X : Nat → Int32) (u : Nat) : Int32 := if u + 1 < n then (hsV X (u + 1) - hsV X u) / 16 else 0
def vN (x : Int32) : Nat := x.toNatClampNeg
def pcV (cd : Nat → Nat) (X : Nat → Int32) (q u : Nat) : Int32 := if isL (cd q) 27 = true ∧ X (65 * q + 63) = 0 ∧ X (65 * q + 59) ≠ X (65 * q + 60) then (if X (65 * q + 59) = nI u then (hsV X (vN (X (65 * q + 60))) - hsV X u) * X (65 * q + 61) / 64 else if X (65 * q + 60) = nI u then (hsV X (vN (X (65 * q + 59))) - hsV X u) * X (65 * q + 61) / 64 else 0) else 0
def psV (cd : Nat → Nat) (X : Nat → Int32) : Nat → Nat → Int32
  | 0, _ => 0
  | q + 1, u => psV cd X q u + pcV cd X q u
def A1 (n : Nat) (cd : Nat → Nat) (X : Nat → Int32) (lt : Int32) (u : Nat) : Int32 := hsV X u + gnV cd X u - lsV cd X lt u + nblV X u + nbrV n X u
def HV (n : Nat) (cd : Nat → Nat) (X : Nat → Int32) (lt : Int32) (u : Nat) : Int32 := lmt (hsV X u + gnV cd X u + nblV X u + nbrV n X u + psV cd X n u - lsV cd X lt u) (-500) 1500
theorem HV_A1 {n : Nat} {cd : Nat → Nat} {X : Nat → Int32} {lt : Int32} {u : Nat} : lmt (A1 n cd X lt u + psV cd X n u) (-500) 1500 = HV n cd X lt u := by
  unfold HV A1
  refine congrArg (fun x => lmt x (-500) 1500) ?_
  simp only [Int32.sub_eq_add_neg]
  ac_rfl
theorem pcV_off {q u : Nat} {X : Nat → Int32} (h : (isL (cd q) 27 && decide (X (65 * q + 63) = 0)) = false) : pcV cd X q u = 0 := by
  unfold pcV
  rw [if_neg]
  rintro ⟨a, b, -⟩
  rw [a, decide_eq_true b] at h
  cases h
theorem pcV_on {q u v w : Nat} {X : Nat → Int32} (h1 : isL (cd q) 27 = true) (h2 : X (65 * q + 63) = 0) (h3 : X (65 * q + 59) = nI v) (h4 : X (65 * q + 60) = nI w) (hv : v < 20) (hw : w < 20) (hu : u < 20) : pcV cd X q u = if v = w then 0 else if v = u then (hsV X w - hsV X u) * X (65 * q + 61) / 64 else if w = u then (hsV X v - hsV X u) * X (65 * q + 61) / 64 else 0 := by
  unfold pcV
  rw [h3, h4, vN, vN, nI_clamp (by omega), nI_clamp (by omega)]
  simp only [h1, h2, true_and, Ne, nI_eq (show v < 2 ^ 31 by omega) (show w < 2 ^ 31 by omega), nI_eq (show v < 2 ^ 31 by omega) (show u < 2 ^ 31 by omega), nI_eq (show w < 2 ^ 31 by omega) (show u < 2 ^ 31 by omega)]
  by_cases q : v = w
  · rw [if_neg (fun z => z q), if_pos q]
  · rw [if_pos q, if_neg q]
theorem heatAlone_ok {u : Nat} (hN : 5000 ≤ N) (h : RC n cd pb L t s0 B D c m) (hu : u < n) : F_X6_heatAlone N 16 (U u) (m 24 47) c L (GRf pb) = some (hsV (m 37) u + gnV cd (m 37) u - lsV cd (m 37) (m 24 47) u) := by
  have hu20 := h.lt20 hu
  have hu' : u ≤ 20 := by omega
  obtain ⟨k, k1, k2, k3⟩ := h.massN hu
  have k4 : aV 0 cd (m 37) u = nI k := k3
  have p62 := h.pt (k := 62) hu (by decide) (by decide) (by decide) (by decide) (by decide)
  have on6 : F_X9_isOn (U u) 6 c L (GRf pb) = _ := h.on (l := 6) hu (by decide) (by decide)
  have is7 : F_X9_is (U u) 7 c L (GRf pb) = _ := h.is (l := 7) hu (by decide)
  have ms : F_X9_mass N (U u) c L (GRf pb) = some (nI k) := by rw [h.massC hN hu, k3]
  have nd : F_X9_need N (U u) c L (GRf pb) = some (aV 2 cd (m 37) u) := h.needC hN hu
  have z1 : (nI k ≤ 0) = False := eq_false (nI_nle (by omega) (by omega))
  have z2 : (nI k = 0) = False := eq_false (nI_ne0 (by omega) (by omega))
  have z3 : (24 : Int32) + nI k = nI (24 + k) := nI_add 24 k
  have z4 : (nI (24 + k) ≤ 0) = False := eq_false (nI_nle (by omega) (by omega))
  have z5 : (nI (24 + k) = 0) = False := eq_false (nI_ne0 (by omega) (by omega))
  have z6 : (4 : Int32) * 0 = 0 := by decide
  unfold gnV lsV wkV hsV onV
  rw [k4]
  generalize aV 2 cd (m 37) u = y at *
  have z7 : (4 : Int32) * y = y * 4 := Int32.mul_comm _ _
  have z8 : y * 1 = y := Int32.mul_one _
  cases eo : (isL (cd u) 6 && decide (m 37 (65 * u + 22) = 1)) <;> cases e7 : isL (cd u) 7 <;> simp only [F_X6_heatAlone, ck_16, if_true, ck_U hu', rf_U0 hu', bse, rp_62 hu', p62, ms, b1e, on6, eo, nd, is7, e7, b2t, b2f, if_false, wre, z1, z2, z3, z4, z5, z6, z7, z8, cond_true, cond_false]
theorem nbl_ok {u : Nat} (h : RC n cd pb L t s0 B D c m) (hu : u < n) : F_X6_fromNeighbour 16 (nI u) (nI u - 1) c L (GRf pb) = some (nblV (m 37) u) := by
  have hu20 := h.lt20 hu
  cases u with
  | zero =>
    have z : (nI 0 - 1 < 0) = True := eq_true (by decide)
    simp only [F_X6_fromNeighbour, ck_16, if_true, rf_16_0, bse, F_X10_has, ck_1, z, b1e, b2f, nblV]
  | succ v =>
    have hv : v < n := by omega
    have hv' : v ≤ 20 := by omega
    have hu' : v + 1 ≤ 20 := by omega
    have p1 := h.pt (k := 62) hu (by decide) (by decide) (by decide) (by decide) (by decide)
    have p2 := h.pt (k := 62) hv (by decide) (by decide) (by decide) (by decide) (by decide)
    have z := hasC_ok (pb := pb) (L := L) (u := v) h.n20 (by omega) h.nc
    simp only [F_X6_fromNeighbour, ck_16, if_true, rf_16_0, bse, nI_pred, z, hv, decide_true, b1e, b2t, if_false, h.at hv, h.at hu, ck_U hu', ck_U hv', rf_U0 hu', rf_U0 hv', rp_62 hu', rp_62 hv', p1, p2, nblV, hsV]
    rw [if_neg (by omega)]
    rfl
theorem nbr_ok {u : Nat} (h : RC n cd pb L t s0 B D c m) (hu : u < n) : F_X6_fromNeighbour 16 (nI u) (nI u + 1) c L (GRf pb) = some (nbrV n (m 37) u) := by
  have hu20 := h.lt20 hu
  have hu' : u ≤ 20 := by omega
  have z := hasC_ok (pb := pb) (L := L) (u := u + 1) h.n20 (by omega) h.nc
  have p1 := h.pt (k := 62) hu (by decide) (by decide) (by decide) (by decide) (by decide)
  by_cases q : u + 1 < n
  · have hv' : u + 1 ≤ 20 := by omega
    have p2 := h.pt (k := 62) q (by decide) (by decide) (by decide) (by decide) (by decide)
    simp only [F_X6_fromNeighbour, ck_16, if_true, rf_16_0, bse, nI_1, z, q, decide_true, b1e, b2t, if_false, h.at q, h.at hu, ck_U hu', ck_U hv', rf_U0 hu', rf_U0 hv', rp_62 hu', rp_62 hv', p1, p2, nbrV, hsV]
  · simp only [F_X6_fromNeighbour, ck_16, if_true, rf_16_0, bse, nI_1, z, q, decide_false, b1e, b2f, nbrV, if_false]
theorem warm1 (hN : 5000 ≤ N) (h : RC n cd pb L t s0 B D c m) : ∃ c', LF_X6_warm_2 N N 16 (m 24 47) (nI 0) c L (GRf pb) = some c' ∧ (∀ o p, o ≠ 17 → c' o p = c o p) ∧ ∀ j, j < n → c' 17 j = A1 n cd (m 37) (m 24 47) j := by
  refine loop1 (f := fun k i I => LF_X6_warm_2 N k 16 (m 24 47) (nI i) I L (GRf pb)) (R := fun i a => (∀ o p, o ≠ 17 → a o p = c o p) ∧ ∀ j, j < i → a 17 j = A1 n cd (m 37) (m 24 47) j) n ?_ ?_ n 0 N c (by omega) (by have := h.n20; omega) ⟨fun _ _ _ => rfl, fun j hj => absurd hj (by omega)⟩
  · intro k a ha
    have ha' : RC n cd pb L t s0 B D a m := h.cOut (fun o p _ h17 => ha.1 o p h17)
    exact ⟨a, by simp only [LF_X6_warm_2, rf_16_0, bse, ha'.size, b1e, nle h.n20, if_true], ha⟩
  · intro k i a hi ha
    have ha' : RC n cd pb L t s0 B D a m := h.cOut (fun o p _ h17 => ha.1 o p h17)
    have hu := h.lt20 hi
    have hu' : i ≤ 20 := by omega
    have z20 : (Int32.ofNat 20 ≤ nI i) = False := eq_false (nI_ge (b := 20) hu (by decide))
    have nb2 : F_X6_fromNeighbour 16 (nI i) (nI (i + 1)) a L (GRf pb) = some (nbrV n (m 37) i) := by rw [← nI_1]; exact nbr_ok ha' hi
    refine ⟨uI a 17 i (A1 n cd (m 37) (m 24 47) i), ?_, ?_, ?_⟩
    · simp only [LF_X6_warm_2, rf_16_0, bse, ha'.size, b1e, nlt hi h.n20, if_false, rf_16_1, ln_17, z20, ha'.at hi, ck_U hu', if_true, heatAlone_ok hN ha' hi, nbl_ok ha' hi, nb2, wi_nI ln_17 hu (show 20 < 2 ^ 31 by decide), wre, A1, nI_1]
    · intro o p ho; rw [uI_at (by omega)]; exact ha.1 o p ho
    · intro j hj
      by_cases q : j = i
      · subst q; rw [uI_same]
      · rw [uI_at (by omega)]; exact ha.2 j (by omega)
theorem addHeat_ok {v : Nat} {x : Int32} {a : MI} (hv : v < 20) : F_X6_addHeat 16 (nI v) x a L (GRf pb) = some (uI a 17 v (a 17 v + x)) := by
  have z20 : (Int32.ofNat 20 ≤ nI v) = False := eq_false (nI_ge (b := 20) hv (by decide))
  have z0 : (nI v < 0) = False := eq_false (nI_pos (by omega))
  simp only [F_X6_addHeat, ck_16, if_true, z0, if_false, rf_16_1, bse, ln_17, z20, ri_nI ln_17 hv (show 20 < 2 ^ 31 by decide), wi_nI ln_17 hv (show 20 < 2 ^ 31 by decide)]
theorem i27 : ∀ c, c < 29 → isL c 27 = true → isL c 26 = true := by decide
theorem warm2 (hN : 5000 ≤ N) (h : RC n cd pb L t s0 B D c m) (A : Nat → Int32) (hA : ∀ j, j < n → c 17 j = A j) : ∃ c', LF_X6_warm_67 N N 16 (nI 0) c L (GRf pb) = some c' ∧ (∀ o p, o ≠ 17 → c' o p = c o p) ∧ ∀ j, j < n → c' 17 j = A j + psV cd (m 37) n j := by
  refine loop1 (f := fun k i I => LF_X6_warm_67 N k 16 (nI i) I L (GRf pb)) (R := fun i a => (∀ o p, o ≠ 17 → a o p = c o p) ∧ ∀ j, j < n → a 17 j = A j + psV cd (m 37) i j) n ?_ ?_ n 0 N c (by omega) (by have := h.n20; omega) ⟨fun _ _ _ => rfl, fun j hj => by rw [hA j hj, psV, Int32.add_zero]⟩
  · intro k a ha
    have ha' : RC n cd pb L t s0 B D a m := h.cOut (fun o p _ h17 => ha.1 o p h17)
    exact ⟨a, by simp only [LF_X6_warm_67, rf_16_0, bse, ha'.size, b1e, nle h.n20, if_true], ha⟩
  · intro k i a hi ha
    have ha' : RC n cd pb L t s0 B D a m := h.cOut (fun o p _ h17 => ha.1 o p h17)
    have hu := h.lt20 hi
    have hu' : i ≤ 20 := by omega
    have f1 : F_X9_isWhole (U i) 27 a L (GRf pb) = _ := ha'.wh (l := 27) hi (by decide)
    cases e : (isL (cd i) 27 && decide (m 37 (65 * i + 63) = 0)) with
    | false =>
      refine ⟨a, ?_, ha.1, ?_⟩
      · simp only [LF_X6_warm_67, rf_16_0, bse, ha'.size, b1e, nlt hi h.n20, if_false, ha'.at hi, ck_U hu', if_true, f1, e, b2f, wre, nI_1]
      · intro j hj
        rw [ha.2 j hj, psV, pcV_off e, Int32.add_zero]
    | true =>
      rw [Bool.and_eq_true] at e
      obtain ⟨e27, e63⟩ := e
      obtain ⟨v, w, hv, hw, q59, q60, -⟩ := (h.si hi).2.2.2.2.2.2.2.2.2.2.2.2.2.2 (i27 _ (h.cd29 hi) e27)
      have q59 : m 37 (65 * i + 59) = nI v := q59
      have q60 : m 37 (65 * i + 60) = nI w := q60
      have hv20 := h.lt20 hv
      have hw20 := h.lt20 hw
      have hv' : v ≤ 20 := by omega
      have hw' : w ≤ 20 := by omega
      have p59 := ha'.pt (k := 59) hi (by decide) (by decide) (by decide) (by decide) (by decide)
      have p60 := ha'.pt (k := 60) hi (by decide) (by decide) (by decide) (by decide) (by decide)
      have p61 := ha'.pt (k := 61) hi (by decide) (by decide) (by decide) (by decide) (by decide)
      have pv := ha'.pt (k := 62) hv (by decide) (by decide) (by decide) (by decide) (by decide)
      have pw := ha'.pt (k := 62) hw (by decide) (by decide) (by decide) (by decide) (by decide)
      have pc : ∀ u, u < 20 → _ := fun u hu => pcV_on (cd := cd) (u := u) (X := m 37) e27 (of_decide_eq_true e63) q59 q60 hv20 hw20 hu
      have p61' : ∀ z x, uI a 17 z x (U i + 1) 61 = m 37 (65 * i + 61) := fun z x => by rw [uI_at (by unfold U; omega)]; exact p61
      have cvw : (nI v = nI w) = (v = w) := propext (nI_eq (by omega) (by omega))
      by_cases vw : v = w
      · refine ⟨a, ?_, ha.1, ?_⟩
        · simp only [LF_X6_warm_67, rf_16_0, bse, ha'.size, b1e, nlt hi h.n20, if_false, ha'.at hi, ck_U hu', if_true, f1, e27, e63, Bool.true_and, b2t, wre, nI_1, F_X6_leadHeat, ck_16, rf_U0 hu', rp_59 hu', rp_60 hu', p59, p60, q59, q60, cvw, if_pos vw]
        · intro j hj
          have := h.lt20 hj
          rw [ha.2 j hj, psV, pc j this, if_pos vw, Int32.add_zero]
      · refine ⟨uI (uI a 17 v (a 17 v + (hsV (m 37) w - hsV (m 37) v) * m 37 (65 * i + 61) / 64)) 17 w (uI a 17 v (a 17 v + (hsV (m 37) w - hsV (m 37) v) * m 37 (65 * i + 61) / 64) 17 w + (0 - (hsV (m 37) w - hsV (m 37) v)) * m 37 (65 * i + 61) / 64), ?_, ?_, ?_⟩
        · simp only [LF_X6_warm_67, rf_16_0, bse, ha'.size, b1e, nlt hi h.n20, if_false, ha'.at hi, ck_U hu', if_true, f1, e27, e63, Bool.true_and, b2t, wre, nI_1, F_X6_leadHeat, ck_16, rf_U0 hu', rp_59 hu', rp_60 hu', p59, p60, q59, q60, cvw, if_neg vw, ha'.at hv, ha'.at hw, ck_U hv', ck_U hw', rf_U0 hv', rf_U0 hw', rp_62 hv', rp_62 hw', pv, pw, rp_61 hu', p61, addHeat_ok hv20, addHeat_ok hw20, p61', hsV]
        · intro o p ho
          rw [uI_at (by omega), uI_at (by omega)]
          exact ha.1 o p ho
        · intro j hj
          have hj20 := h.lt20 hj
          rw [psV, pc j hj20, if_neg vw]
          by_cases jv : v = j
          · subst jv
            rw [if_pos rfl, uI_at (by omega), uI_same, ha.2 v hv, Int32.add_assoc]
          · rw [if_neg jv]
            by_cases jw : w = j
            · subst jw
              rw [if_pos rfl, uI_same, uI_at (by omega), ha.2 w hw, Int32.add_assoc, Int32.zero_sub, Int32.neg_sub]
            · rw [if_neg jw, uI_at (by omega), uI_at (by omega), ha.2 j hj, Int32.add_zero]
theorem hpipe {u : Nat} (hN : 5000 ≤ N) (h : RC n cd pb L t s0 B D c m) (hu : u < n) (y : Int32) : LF_X12_heated_113 N N 24 (nI u) (hsV (m 37) u) y (nI 0) m L (GRf pb) = some (y + psV cd (m 37) n u) := by
  have hu20 := h.lt20 hu
  have key := loop1 (f := fun k i (z : Int32) => LF_X12_heated_113 N k 24 (nI u) (hsV (m 37) u) z (nI i) m L (GRf pb)) (R := fun i z => z = y + psV cd (m 37) i u) (Q := fun z => z = y + psV cd (m 37) n u) n ?_ ?_ n 0 N y (by omega) (by have := h.n20; omega) (by rw [psV, Int32.add_zero])
  · obtain ⟨r, e1, e2⟩ := key
    rw [e1, e2]
  · intro k a ha
    exact ⟨a, by simp only [LF_X12_heated_113, h.nm, nle h.n20, if_true], ha⟩
  · intro k i a hi ha
    have hi20 := h.lt20 hi
    have f1 : F_X12_isA N 24 (nI i) 27 m L (GRf pb) = _ := h.isA (l := 27) (by omega) hi (by decide)
    have f2 := h.whM hi
    cases e27 : isL (cd i) 27 with
    | false =>
      refine ⟨a, ?_, ?_⟩
      · simp only [LF_X12_heated_113, h.nm, nlt hi h.n20, if_false, f1, b1e, e27, b2f, if_true, wre, nI_1]
      · rw [ha, psV, pcV_off (by rw [e27]; rfl), Int32.add_zero]
    | true =>
      cases e63 : decide (m 37 (65 * i + 63) = 0) with
      | false =>
        refine ⟨a, ?_, ?_⟩
        · simp only [LF_X12_heated_113, h.nm, nlt hi h.n20, if_false, f1, f2, b1e, e27, e63, b2t, b2f, if_true, wre, nI_1]
        · rw [ha, psV, pcV_off (by rw [e27, e63]; rfl), Int32.add_zero]
      | true =>
        obtain ⟨v, w, hv, hw, q59, q60, -⟩ := (h.si hi).2.2.2.2.2.2.2.2.2.2.2.2.2.2 (i27 _ (h.cd29 hi) e27)
        have q59 : m 37 (65 * i + 59) = nI v := q59
        have q60 : m 37 (65 * i + 60) = nI w := q60
        have hv20 := h.lt20 hv
        have hw20 := h.lt20 hw
        have pc := pcV_on (cd := cd) (u := u) (X := m 37) e27 (of_decide_eq_true e63) q59 q60 hv20 hw20 hu20
        have cvw : (nI v = nI w) = (v = w) := propext (nI_eq (by omega) (by omega))
        have cvu : (nI v = nI u) = (v = u) := propext (nI_eq (by omega) (by omega))
        have cwu : (nI w = nI u) = (w = u) := propext (nI_eq (by omega) (by omega))
        have nv : (nI v = -1) = False := eq_false (fun z => nI_pos (n := v) (by omega) (by rw [z]; decide))
        have nw : (nI w = -1) = False := eq_false (fun z => nI_pos (n := w) (by omega) (by rw [z]; decide))
        have n1 : ((-1 : Int32) = -1) = True := eq_true rfl
        have hz : ∀ z, a + z = y + (psV cd (m 37) i u + z) := fun z => by rw [ha, Int32.add_assoc]
        by_cases vw : v = w
        · refine ⟨a, ?_, ?_⟩
          · simp only [LF_X12_heated_113, h.nm, nlt hi h.n20, if_false, f1, f2, b1e, e27, e63, b2t, b2f, if_true, wre, nI_1, gt_59 hi20, gt_60 hi20, q59, q60, cvw, if_pos vw]
          · rw [ha, psV, pc, if_pos vw, Int32.add_zero]
        by_cases vu : v = u
        · refine ⟨a + (m 37 (65 * w + 62) - hsV (m 37) u) * m 37 (65 * i + 61) / 64, ?_, ?_⟩
          · simp only [LF_X12_heated_113, h.nm, nlt hi h.n20, if_false, f1, f2, b1e, e27, e63, b2t, b2f, if_true, wre, nI_1, gt_59 hi20, gt_60 hi20, gt_61 hi20, q59, q60, cvw, cvu, cwu, if_neg vw, if_pos vu, nw, gt_62 hw20]
          · rw [psV, pc, if_neg vw, if_pos vu, hz]; rfl
        by_cases wu : w = u
        · refine ⟨a + (m 37 (65 * v + 62) - hsV (m 37) u) * m 37 (65 * i + 61) / 64, ?_, ?_⟩
          · simp only [LF_X12_heated_113, h.nm, nlt hi h.n20, if_false, f1, f2, b1e, e27, e63, b2t, b2f, if_true, wre, nI_1, gt_59 hi20, gt_60 hi20, gt_61 hi20, q59, q60, cvw, cvu, cwu, if_neg vw, if_neg vu, if_pos wu, nv, gt_62 hv20]
          · rw [psV, pc, if_neg vw, if_neg vu, if_pos wu, hz]; rfl
        · refine ⟨a + 0, ?_, ?_⟩
          · simp only [LF_X12_heated_113, h.nm, nlt hi h.n20, if_false, f1, f2, b1e, e27, e63, b2t, b2f, if_true, wre, nI_1, gt_59 hi20, gt_60 hi20, gt_61 hi20, q59, q60, cvw, cvu, cwu, if_neg vw, if_neg vu, if_neg wu, n1]
          · rw [psV, pc, if_neg vw, if_neg vu, if_neg wu, hz]
theorem heated_ok {u : Nat} (hN : 5000 ≤ N) (h : RC n cd pb L t s0 B D c m) (hu : u < n) : ∃ m', F_X12_heated N 24 (nI u) m L (GRf pb) = some (HV n cd (m 37) (m 24 47) u, m') ∧ ∀ o p, o ≠ 41 → m' o p = m o p := by
  have hu20 := h.lt20 hu
  have one : ∃ m1, bn2 (if b2i (isL (cd u) 6 && decide (m 37 (65 * u + 22) = 1)) = 0 then some ((0 : Int32), m) else
      bn2 (F_X12_answer N 24 (nI u) 2 m L (GRf pb)) fun v10 I11 => bn1 (F_X12_isA N 24 (nI u) 7 I11 L (GRf pb)) fun b13 => bn1 (if b2i b13 = 0 then some (1 : Int32) else some 4) fun s15 => some (v10 * s15, I11)) (fun a b => some (a, b)) = some (wkV cd (m 37) u, m1) ∧ ∀ o p, o ≠ 41 → m1 o p = m o p := by
    cases eo : (isL (cd u) 6 && decide (m 37 (65 * u + 22) = 1)) with
    | false =>
      refine ⟨m, ?_, fun _ _ _ => rfl⟩
      simp only [b2f, if_true, b2e, wkV, onV, eo, cond_false]
    | true =>
      obtain ⟨m1, a1, b1⟩ := h.ansM (q := 2) hN hu (by decide)
      have h1 : RC n cd pb L t s0 B D c m1 := h.mOut (fun o p z _ _ _ => b1 o p z)
      have f1 : F_X12_isA N 24 (nI u) 7 m1 L (GRf pb) = _ := h1.isA (l := 7) (by omega) hu (by decide)
      have a1 : F_X12_answer N 24 (nI u) 2 m L (GRf pb) = some (aV 2 cd (m 37) u, m1) := a1
      refine ⟨m1, ?_, b1⟩
      cases e7 : isL (cd u) 7 <;> simp only [b2t, b2f, if_true, if_false, a1, b1e, b2e, f1, e7, wkV, onV, eo, cond_true, cond_false]
  obtain ⟨m1, o1, b1⟩ := one
  have h1 : RC n cd pb L t s0 B D c m1 := h.mOut (fun o p z _ _ _ => b1 o p z)
  have x1 : m1 37 = m 37 := funext fun p => b1 37 p (by decide)
  obtain ⟨m2, a2, b2⟩ := h1.ansM (q := 0) hN hu (by decide)
  have h2 : RC n cd pb L t s0 B D c m2 := h1.mOut (fun o p z _ _ _ => b2 o p z)
  have x2 : m2 37 = m1 37 := funext fun p => b2 37 p (by decide)
  obtain ⟨m3, a3, b3⟩ := h2.ansM (q := 0) hN hu (by decide)
  obtain ⟨k, k1, k2, k3⟩ := h.massN hu
  have k4 : aV 0 cd (m 37) u = nI k := k3
  have a2 : F_X12_answer N 24 (nI u) 0 m1 L (GRf pb) = some (nI k, m2) := by
    rw [show Pm m1 u = Pm m u by unfold Pm; rw [x1], k3] at a2; exact a2
  have a3 : F_X12_answer N 24 (nI u) 0 m2 L (GRf pb) = some (nI k, m3) := by
    rw [show Pm m2 u = Pm m u by unfold Pm; rw [x2, x1], k3] at a3; exact a3
  have hp := hpipe hN h2 hu
  rw [x2, x1] at hp
  have n2 : m2 24 21 = nI n := h2.nm
  have l2 : m2 24 47 = m 24 47 := by rw [b2 24 47 (by decide), b1 24 47 (by decide)]
  have z2 : (nI k = 0) = False := eq_false (nI_ne0 (by omega) (by omega))
  have z3 : (24 : Int32) + nI k = nI (24 + k) := nI_add 24 k
  have z5 : (nI (24 + k) = 0) = False := eq_false (nI_ne0 (by omega) (by omega))
  have g0 : F_X12_get 24 (nI u) 62 m L (GRf pb) = some (hsV (m 37) u) := gt_62 hu20
  have z1 : (nI u ≤ 0) = (u = 0) := propext ⟨fun q => Nat.le_zero.mp ((nI_leI (b := 0) (by omega) (by decide)).mp q), fun q => by subst q; decide⟩
  have z4 : (nI n ≤ nI (u + 1)) = (n ≤ u + 1) := propext (nI_leI (by have := h.n20; omega) (by omega))
  have onm := h.onM (show 6 ≤ N by omega) hu
  have lim : ∀ x, F_X12_limit x (-500) 1500 m3 L (GRf pb) = some (lmt x (-500) 1500) := fun x => limM_val
  refine ⟨m3, ?_, fun o p z => by rw [b3 o p z, b2 o p z, b1 o p z]⟩
  have o2 : ∀ {γ : Type} (f : Int32 → MI → Option γ), bn2 (if b2i (isL (cd u) 6 && decide (m 37 (65 * u + 22) = 1)) = 0 then some ((0 : Int32), m) else
      bn2 (F_X12_answer N 24 (nI u) 2 m L (GRf pb)) fun v10 I11 => bn1 (F_X12_isA N 24 (nI u) 7 I11 L (GRf pb)) fun b13 => bn1 (if b2i b13 = 0 then some (1 : Int32) else some 4) fun s15 => some (v10 * s15, I11)) f = f (wkV cd (m 37) u) m1 := by
    intro γ f
    generalize (if b2i (isL (cd u) 6 && decide (m 37 (65 * u + 22) = 1)) = 0 then some ((0 : Int32), m) else
      bn2 (F_X12_answer N 24 (nI u) 2 m L (GRf pb)) fun v10 I11 => bn1 (F_X12_isA N 24 (nI u) 7 I11 L (GRf pb)) fun b13 => bn1 (if b2i b13 = 0 then some (1 : Int32) else some 4) fun s15 => some (v10 * s15, I11)) = x at o1
    cases x with
    | none => cases o1
    | some y =>
      obtain ⟨y1, y2⟩ := y
      have e := Option.some.inj o1
      rw [Prod.mk.injEq] at e
      rw [← e.1, ← e.2, b2e]
  have gs : ∀ v, v < 20 → F_X12_get 24 (nI v) 62 m2 L (GRf pb) = some (hsV (m 37) v) := fun v hv => by
    rw [gt_62 hv]; unfold hsV; rw [x2, x1]
  have hp0 : ∀ y, LF_X12_heated_113 N N 24 (nI u) (hsV (m 37) u) y 0 m2 L (GRf pb) = some (y + psV cd (m 37) n u) := hp
  by_cases q0 : u = 0 <;> by_cases q1 : n ≤ u + 1
  · simp only [F_X12_heated, ck_24, if_true, g0, b1e, onm, o2, a2, a3, b2e, z2, if_false, wre, z1, if_pos q0, nI_1, n2, z4, if_pos q1, HV, gnV, lsV, k4, l2, nblV, nbrV, if_neg (show ¬ (u + 1 < n) by omega), Int32.add_zero, hp0, z3, z5, lim]
  · have g2 := gs (u + 1) (by have := h.n20; omega)
    simp only [F_X12_heated, ck_24, if_true, g0, b1e, onm, o2, a2, a3, b2e, z2, if_false, wre, z1, if_pos q0, nI_1, n2, z4, if_neg q1, g2, HV, gnV, lsV, k4, l2, nblV, nbrV, if_pos (show u + 1 < n by omega), Int32.add_zero, hp0, z3, z5, lim]
  · have g1 := gs (u - 1) (by omega)
    have pm : nI u - 1 = nI (u - 1) := by obtain ⟨v, rfl⟩ : ∃ v, u = v + 1 := ⟨u - 1, by omega⟩; exact nI_pred v
    simp only [F_X12_heated, ck_24, if_true, g0, b1e, onm, o2, a2, a3, b2e, z2, if_false, wre, z1, if_neg q0, pm, g1, nI_1, n2, z4, if_pos q1, HV, gnV, lsV, k4, l2, nblV, nbrV, if_neg (show ¬ (u + 1 < n) by omega), Int32.add_zero, hp0, z3, z5, lim]
  · have g1 := gs (u - 1) (by omega)
    have g2 := gs (u + 1) (by have := h.n20; omega)
    have pm : nI u - 1 = nI (u - 1) := by obtain ⟨v, rfl⟩ : ∃ v, u = v + 1 := ⟨u - 1, by omega⟩; exact nI_pred v
    simp only [F_X12_heated, ck_24, if_true, g0, b1e, onm, o2, a2, a3, b2e, z2, if_false, wre, z1, if_neg q0, pm, g1, nI_1, n2, z4, if_neg q1, g2, HV, gnV, lsV, k4, l2, nblV, nbrV, if_pos (show u + 1 < n by omega), Int32.add_zero, hp0, z3, z5, lim]
theorem heatM1 (hN : 5000 ≤ N) (h : RC n cd pb L t s0 B D c m) : ∃ m', LF_X12_heat_2 N N 24 (nI 0) m L (GRf pb) = some m' ∧ (∀ o p, o ≠ 41 → o ≠ 55 → m' o p = m o p) ∧ ∀ j, j < n → m' 55 j = HV n cd (m 37) (m 24 47) j := by
  refine loop1 (f := fun k i I => LF_X12_heat_2 N k 24 (nI i) I L (GRf pb)) (R := fun i a => (∀ o p, o ≠ 41 → o ≠ 55 → a o p = m o p) ∧ ∀ j, j < i → a 55 j = HV n cd (m 37) (m 24 47) j) n ?_ ?_ n 0 N m (by omega) (by have := h.n20; omega) ⟨fun _ _ _ _ => rfl, fun j hj => absurd hj (by omega)⟩
  · intro k a ha
    have ha' : RC n cd pb L t s0 B D c a := h.mOut (fun o p z1 _ z2 _ => ha.1 o p z1 z2)
    exact ⟨a, by simp only [LF_X12_heat_2, ha'.nm, nle h.n20, if_true], ha⟩
  · intro k i a hi ha
    have ha' : RC n cd pb L t s0 B D c a := h.mOut (fun o p z1 _ z2 _ => ha.1 o p z1 z2)
    have hu := h.lt20 hi
    obtain ⟨m', e1, e2⟩ := heated_ok hN ha' hi
    have x1 : a 37 = m 37 := funext fun p => ha.1 37 p (by decide) (by decide)
    rw [x1, ha.1 24 47 (by decide) (by decide)] at e1
    refine ⟨uI m' 55 i (HV n cd (m 37) (m 24 47) i), ?_, ?_, ?_⟩
    · simp only [LF_X12_heat_2, ha'.nm, nlt hi h.n20, if_false, rf_24_62, bse, e1, b2e, wi_nI ln_55 hu (show 20 < 2 ^ 31 by decide), wre, nI_1]
    · intro o p h1 h2; rw [uI_at (by omega), e2 o p h1]; exact ha.1 o p h1 h2
    · intro j hj
      by_cases q : j = i
      · subst q; rw [uI_same]
      · rw [uI_at (by omega), e2 _ _ (by decide)]; exact ha.2 j (by omega)
theorem heat3 (hN : 5000 ≤ N) (h : RC n cd pb L t s0 B D c m) (hh : ∀ j, j < n → lmt (c 17 j) (-500) 1500 = m 55 j) : Sm (LF_X6_warm_114 N N 16 (nI 0) c L (GRf pb)) (LF_X12_heat_29 N N 24 (nI 0) m L (GRf pb)) (fun a b => RC n cd pb L t s0 B D a b ∧ ∀ j, j < n → b 55 j = b 37 (65 * j + 62)) := by
  refine loop2 (f := fun k i I => LF_X6_warm_114 N k 16 (nI i) I L (GRf pb)) (g := fun k i I => LF_X12_heat_29 N k 24 (nI i) I L (GRf pb)) (R := fun i a b => RC n cd pb L t s0 B D a b ∧ (∀ j, j < n → lmt (a 17 j) (-500) 1500 = b 55 j) ∧ ∀ j, j < i → b 55 j = b 37 (65 * j + 62)) n ?_ ?_ n 0 N N c m (by omega) (by have := h.n20; omega) (by have := h.n20; omega) ⟨h, hh, fun j hj => absurd hj (by omega)⟩
  · intro k l a b ⟨h, h1, h2⟩
    refine ⟨a, b, ?_, ?_, h, h2⟩ <;> simp only [LF_X6_warm_114, LF_X12_heat_29, rf_16_0, bse, h.size, b1e, h.nm, nle h.n20, if_true]
  · intro k l i a b hi ⟨h, h1, h2⟩
    have hu := h.lt20 hi
    have hu' : i ≤ 20 := by omega
    have z20 : (Int32.ofNat 20 ≤ nI i) = False := eq_false (nI_ge (b := 20) hu (by decide))
    have lim : ∀ x, F_X11_limit x (-500) 1500 a L (GRf pb) = some (lmt x (-500) 1500) := fun x => limC_val
    have hr := h.part (k := 62) hi (by unfold dynP; omega) (by omega) (by omega) (h1 i hi)
    refine ⟨_, _, ?_, ?_, hr, ?_, ?_⟩
    · simp only [LF_X6_warm_114, rf_16_0, bse, h.size, b1e, nlt hi h.n20, if_false, rf_16_1, ln_17, z20, h.at hi, ck_U hu', if_true, rf_U0 hu', ri_nI ln_17 hu (show 20 < 2 ^ 31 by decide), lim, wp_62 hu', wre, nI_1]
    · simp only [LF_X12_heat_29, h.nm, nlt hi h.n20, if_false, rf_24_62, bse, ri_nI ln_55 hu (show 20 < 2 ^ 31 by decide), st_62 hu, b1e, wre, nI_1]
    · intro j hj
      rw [uI_at (by unfold U; omega), uI_at (by omega)]
      exact h1 j hj
    · intro j hj
      rw [uI_at (by omega)]
      by_cases q : j = i
      · subst q; rw [uI_same]
      · rw [uI_at (by omega)]; exact h2 j (by omega)
theorem RC.monoB (h : RC n cd pb L t s0 B D c m) {B' : Nat} (hB : B ≤ B') (hl : B' < 2 ^ 30) : RC n cd pb L t s0 B' D c m := by
  obtain ⟨h1, h2, a1, a2, a3, a4, a5, a6, ⟨x, y, b1, b2, b3, b4⟩, a8⟩ := h
  exact ⟨h1, h2, a1, a2, a3, a4, a5, hl, ⟨x, y, b1, b2, by omega, b4⟩, a8⟩
theorem RQ.m50 {ob : Nat → Nat → Prop} {pb : Nat} {c m : MI} {v : Int32} (h : RQ ob pb c m) : RQ ob pb c (uI m 24 50 v) := by
  intro o p a b ht hg
  rw [h o p a b ht (fun z => by have y := hg z; rw [uI_at (by omega)] at y; exact y)]
  refine (uI_at ?_).symm
  rintro ⟨rfl, rfl⟩
  have hx : ∀ x ∈ scT, x.2.2 < 50 := by decide
  rcases ht with ⟨u, g⟩ | ⟨g0, g⟩ | g | g | g | g
  · omega
  · have := hx _ g
    simp only at this
    omega
  · omega
  · omega
  · omega
  · omega
theorem RC.trouble {p b : Nat} {v w : Int32} (h : RC n cd pb L t s0 B D c m) (hb : (p = 4 ∧ b = 39) ∨ (p = 5 ∧ b = 40)) (hB : B + 1 < 2 ^ 30) (hv : v = m 24 b + 1) (hw : w = m 24 b + 1) : RC n cd pb L t s0 (B + 1) D (uI c 16 p v) (uI (uI m 24 b w) 24 50 1) := by
  have hmt : Mt (ob n cd) pb 16 p 24 b := by
    rcases hb with ⟨rfl, rfl⟩ | ⟨rfl, rfl⟩
    · exact Or.inr (Or.inl ⟨rfl, by decide⟩)
    · exact Or.inr (Or.inl ⟨rfl, by decide⟩)
  have hn := h.n20
  refine ⟨(h.1.up hmt (hv.trans hw.symm)).m50, h.2.1.congr (fun o q z => uI_at (by unfold stc at z; omega)) (fun o q z => by rw [uI_at (by unfold stm at z; omega), uI_at (by unfold stm at z; omega)]), ?_⟩
  obtain ⟨a1, a2, a3, a4, a5, a6, ⟨x, y, b1, b2, b3, b4, b5⟩, a8, a9, a10⟩ := h.2.2
  refine ⟨by rw [uI_at (by omega), uI_at (by omega)]; exact a1, a2, by rw [uI_at (by omega), uI_at (by omega)]; exact a3, by rw [uI_at (by omega), uI_at (by omega)]; exact a4, a5, hB, ?_, ?_, ?_, fun u hu => by rw [uI_at (by omega), uI_at (by omega)]; exact a10 u hu⟩
  · rw [uI_same, uI_at (show ¬ ((24 : Nat) = 24 ∧ 39 = 50) by omega), uI_at (show ¬ ((24 : Nat) = 24 ∧ 40 = 50) by omega)]
    rcases hb with ⟨rfl, rfl⟩ | ⟨rfl, rfl⟩
    · refine ⟨x + 1, y, by rw [uI_same, hw, b1, nI_1], by rw [uI_at (by omega)]; exact b2, by omega, by omega, ?_⟩
      constructor
      · intro z; exact absurd z (by decide)
      · intro z; omega
    · refine ⟨x, y + 1, by rw [uI_at (by omega)]; exact b1, by rw [uI_same, hw, b2, nI_1], by omega, by omega, ?_⟩
      constructor
      · intro z; exact absurd z (by decide)
      · intro z; omega
  · rw [uI_at (by omega), uI_at (by omega), uI_at (by omega), uI_at (by omega), uI_at (by omega), uI_at (by omega), uI_at (by omega), uI_at (by omega)]; exact a8
  · intro u hu h5
    have e : U u = 58 + 4 * u := rfl
    exact (a9 u hu h5).congr (uI_at (by omega)) (fun q => uI_at (by omega)) (by rw [uI_at (by omega), uI_at (by omega)]) (by rw [uI_at (by omega), uI_at (by omega)]) (fun i hi => by rw [uI_at (by omega), uI_at (by omega)])
def inV (x a b : Int32) : Bool := if x < a then false else if b < x then false else true
theorem inC_val {x a b : Int32} {I : MI} {L : ML} {R : MR} : F_X11_within x a b I L R = some (inV x a b) := by
  unfold F_X11_within inV
  by_cases h : x < a
  · rw [if_pos h, if_pos h]
  · rw [if_neg h, if_neg h]
    by_cases h2 : b < x
    · rw [if_pos h2, if_pos h2]
    · rw [if_neg h2, if_neg h2]
theorem inM_val {x a b : Int32} {I : MI} {L : ML} {R : MR} : F_X12_in x a b I L R = some (inV x a b) := inC_val (I := I) (L := L) (R := R)
theorem break_ok (hN : 5000 ≤ N) (hB : B + 20 < 2 ^ 30) (h : RC n cd pb L t s0 B D c m) (hh : ∀ j, j < n → m 55 j = m 37 (65 * j + 62)) : Sm (F_X6_breakUnits N 16 c L (GRf pb)) (LF_X12_heat_58 N N 24 (nI 0) m L (GRf pb)) (RC n cd pb L t s0 (B + 20) D) := by
  have hn := h.n20
  have key := loop2 (f := fun k i I => LF_X6_breakUnits_2 N k 16 (nI i) I L (GRf pb)) (g := fun k i I => LF_X12_heat_58 N k 24 (nI i) I L (GRf pb)) (R := fun i a b => RC n cd pb L t s0 (B + i) D a b ∧ ∀ j, j < n → b 55 j = b 37 (65 * j + 62)) (Q := RC n cd pb L t s0 (B + 20) D) n ?_ ?_ n 0 N N c m (by omega) (by have := h.n20; omega) (by have := h.n20; omega) ⟨h, hh⟩
  · simp only [F_X6_breakUnits, ck_16, if_true]
    obtain ⟨a, b, e1, e2, hr⟩ := key
    exact ⟨a, b, by rw [show (0 : Int32) = nI 0 from rfl, e1]; rfl, e2, hr⟩
  · intro k l a b ⟨h, h1⟩
    refine ⟨a, b, ?_, ?_, h.monoB (by omega) (by omega)⟩ <;> simp only [LF_X6_breakUnits_2, LF_X12_heat_58, rf_16_0, bse, h.size, b1e, h.nm, nle h.n20, if_true]
  · intro k l i a b hi ⟨h, hh⟩
    have hu := h.lt20 hi
    have hu' : i ≤ 20 := by omega
    have hk : RC n cd pb L t s0 (B + (i + 1)) D a b := h.monoB (by omega) (by omega)
    have p63 := h.pt (k := 63) hi (by decide) (by decide) (by decide) (by decide) (by decide)
    have p62 := h.pt (k := 62) hi (by decide) (by decide) (by decide) (by decide) (by decide)
    have whm := h.whM hi
    have r55 : ri b 55 (nI i) = some (b 37 (65 * i + 62)) := by rw [ri_nI ln_55 hu (show 20 < 2 ^ 31 by decide), hh i hi]
    have inc : F_X11_within (b 37 (65 * i + 62)) (-200) 900 a L (GRf pb) = _ := inC_val
    have inm : F_X12_in (b 37 (65 * i + 62)) (-200) 900 b L (GRf pb) = _ := inM_val
    by_cases e63 : b 37 (65 * i + 63) = 0
    · cases ei : inV (b 37 (65 * i + 62)) (-200) 900 with
      | true =>
        refine ⟨_, _, ?_, ?_, hk, hh⟩ <;> simp only [LF_X6_breakUnits_2, LF_X12_heat_58, rf_16_0, bse, b1e, wre, nI_1, h.size, h.nm, nlt hi h.n20, if_false, if_true, h.at hi, ck_U hu', b2t, b2f, rf_U0 hu', rp_63 hu', rp_62 hu', p63, p62, whm, if_pos e63, decide_eq_true e63, rf_24_62, r55, inc, inm, ei]
      | false =>
        have h1 := h.broke hi
        have ia : F_X12_isA N 24 (nI i) 6 (uI b 37 (65 * i + 63) 1) L (GRf pb) = _ := h1.isA (l := 6) (by omega) hi (by decide)
        cases e6 : isL (cd i) 6 with
        | true =>
          have h2 := h1.part (k := 22) (v := 0) (w := 0) hi (by unfold dynP; omega) (by omega) (fun _ => e6) rfl
          have h3 := h2.trouble (p := 5) (b := 40) (Or.inr ⟨rfl, rfl⟩) (by omega) (congrArg (· + 1) (h2.sc (o := 16) (p := 5) (b := 40) (by decide))) rfl
          refine ⟨_, _, ?_, ?_, h3, ?_⟩
          rotate_left 2
          · intro j hj
            rw [uI_at (by omega), uI_at (by omega), uI_at (by omega), uI_at (by omega), uI_at (by omega), uI_at (by omega), uI_at (by omega), uI_at (by omega)]
            exact hh j hj
          all_goals simp only [LF_X6_breakUnits_2, LF_X12_heat_58, rf_16_0, bse, b1e, wre, nI_1, h.size, h.nm, nlt hi h.n20, if_false, if_true, h.at hi, ck_U hu', b2t, b2f, rf_U0 hu', rp_63 hu', rp_62 hu', p63, p62, whm, if_pos e63, decide_eq_true e63, rf_24_62, r55, inc, inm, ei, wp_63 hu', wp_22 hu', st_63 hu, st_22 hu, ia, e6]
        | false =>
          have h2 := h1.c22 (v := 0) hi e6
          have h3 := h2.trouble (p := 5) (b := 40) (Or.inr ⟨rfl, rfl⟩) (by omega) (congrArg (· + 1) (h2.sc (o := 16) (p := 5) (b := 40) (by decide))) rfl
          refine ⟨_, _, ?_, ?_, h3, ?_⟩
          rotate_left 2
          · intro j hj
            rw [uI_at (by omega), uI_at (by omega), uI_at (by omega), uI_at (by omega), uI_at (by omega), uI_at (by omega)]
            exact hh j hj
          all_goals simp only [LF_X6_breakUnits_2, LF_X12_heat_58, rf_16_0, bse, b1e, wre, nI_1, h.size, h.nm, nlt hi h.n20, if_false, if_true, h.at hi, ck_U hu', b2t, b2f, rf_U0 hu', rp_63 hu', rp_62 hu', p63, p62, whm, if_pos e63, decide_eq_true e63, rf_24_62, r55, inc, inm, ei, wp_63 hu', wp_22 hu', st_63 hu, st_22 hu, ia, e6]
    · refine ⟨_, _, ?_, ?_, hk, hh⟩ <;> simp only [LF_X6_breakUnits_2, LF_X12_heat_58, rf_16_0, bse, b1e, wre, nI_1, h.size, h.nm, nlt hi h.n20, if_false, if_true, h.at hi, ck_U hu', b2t, b2f, rf_U0 hu', rp_63 hu', rp_62 hu', p63, p62, whm, if_neg e63, decide_eq_false e63]
theorem i8 : ∀ c, c < 29 → isL c 8 = true → c = 8 := by decide
theorem i86 : ∀ c, c < 29 → isL c 8 = true → isL c 6 = true := by decide
theorem thermo_ok (hN : 5000 ≤ N) (h : RC n cd pb L t s0 B D c m) : Sm (F_X6_switchThermos N 16 c L (GRf pb)) (LF_X12_heat_144 N N 24 0 m L (GRf pb)) (RC n cd pb L t s0 B D) := by
  have key := loop2 (f := fun k i I => LF_X6_switchThermos_2 N k 16 (nI i) I L (GRf pb)) (g := fun k i I => LF_X12_heat_144 N k 24 (nI i) I L (GRf pb)) (R := fun _ a b => RC n cd pb L t s0 B D a b) (Q := RC n cd pb L t s0 B D) n ?_ ?_ n 0 N N c m (by omega) (by have := h.n20; omega) (by have := h.n20; omega) h
  · simp only [F_X6_switchThermos, ck_16, if_true]
    obtain ⟨a, b, e1, e2, hr⟩ := key
    exact ⟨a, b, by rw [show (0 : Int32) = nI 0 from rfl, e1]; rfl, e2, hr⟩
  · intro k l a b h
    refine ⟨a, b, ?_, ?_, h⟩ <;> simp only [LF_X6_switchThermos_2, LF_X12_heat_144, rf_16_0, bse, h.size, b1e, h.nm, nle h.n20, if_true]
  · intro k l i a b hi h
    have hu := h.lt20 hi
    have hu' : i ≤ 20 := by omega
    have wh8 : F_X9_isWhole (U i) 8 a L (GRf pb) = _ := h.wh (l := 8) hi (by decide)
    have ia8 : F_X12_isA N 24 (nI i) 8 b L (GRf pb) = _ := h.isA (l := 8) (by omega) hi (by decide)
    have whM := h.whM hi
    cases e8 : isL (cd i) 8 with
    | true =>
      cases e63 : (decide (b 37 (65 * i + 63) = 0)) with
      | true =>
        obtain ⟨v, hv, q27⟩ := (h.si hi).2.2.2.2.2.2.2.2.2.2.2.1 (Or.inl (i8 _ (h.cd29 hi) e8))
        have q27 : b 37 (65 * i + 27) = nI v := q27
        have hv20 := h.lt20 hv
        have hv' : v ≤ 20 := by omega
        have p27 := h.pt (k := 27) hi (by decide) (by decide) (by decide) (by decide) (by decide)
        have p28 := h.pt (k := 28) hi (by decide) (by decide) (by decide) (by decide) (by decide)
        have p26 := h.pt (k := 26) hi (by decide) (by decide) (by decide) (by decide) (by decide)
        have p62 := h.pt (k := 62) hv (by decide) (by decide) (by decide) (by decide) (by decide)
        have h6 := i86 _ (h.cd29 hi) e8
        by_cases c1 : b 37 (65 * i + 28) - b 37 (65 * i + 26) ≤ b 37 (65 * v + 62)
        ·
          by_cases c2 : b 37 (65 * v + 62) ≤ b 37 (65 * i + 28) + b 37 (65 * i + 26)
          ·
            refine ⟨_, _, ?_, ?_, h⟩ <;> simp only [LF_X6_switchThermos_2, LF_X12_heat_144, rf_16_0, bse, b1e, b2e, wre, nI_1, h.size, h.nm, nlt hi h.n20, if_false, if_true, h.at hi, ck_U hu', b2t, b2f, rf_U0 hu', one0, zer0, wh8, ia8, whM, Bool.true_and, Bool.false_and, e8, e63, rp_27 hu', rp_28 hu', rp_26 hu', p27, p28, p26, q27, h.at hv, ck_U hv', rf_U0 hv', rp_62 hv', p62, gt_27 hu, gt_28 hu, gt_26 hu, gt_62 hv20, wp_22 hu', st_22 hu, if_pos c1, if_pos c2]
          ·
            have hr := h.part (k := 22) (v := 0) (w := 0) hi (by unfold dynP; omega) (by omega) (fun _ => h6) rfl
            refine ⟨_, _, ?_, ?_, hr⟩ <;> simp only [LF_X6_switchThermos_2, LF_X12_heat_144, rf_16_0, bse, b1e, b2e, wre, nI_1, h.size, h.nm, nlt hi h.n20, if_false, if_true, h.at hi, ck_U hu', b2t, b2f, rf_U0 hu', one0, zer0, wh8, ia8, whM, Bool.true_and, Bool.false_and, e8, e63, rp_27 hu', rp_28 hu', rp_26 hu', p27, p28, p26, q27, h.at hv, ck_U hv', rf_U0 hv', rp_62 hv', p62, gt_27 hu, gt_28 hu, gt_26 hu, gt_62 hv20, wp_22 hu', st_22 hu, if_pos c1, if_neg c2]
        ·
          have hr := h.part (k := 22) (v := 1) (w := 1) hi (by unfold dynP; omega) (by omega) (fun _ => h6) rfl
          refine ⟨_, _, ?_, ?_, hr⟩ <;> simp only [LF_X6_switchThermos_2, LF_X12_heat_144, rf_16_0, bse, b1e, b2e, wre, nI_1, h.size, h.nm, nlt hi h.n20, if_false, if_true, h.at hi, ck_U hu', b2t, b2f, rf_U0 hu', one0, zer0, wh8, ia8, whM, Bool.true_and, Bool.false_and, e8, e63, rp_27 hu', rp_28 hu', rp_26 hu', p27, p28, p26, q27, h.at hv, ck_U hv', rf_U0 hv', rp_62 hv', p62, gt_27 hu, gt_28 hu, gt_26 hu, gt_62 hv20, wp_22 hu', st_22 hu, if_neg c1]
      | false =>
        refine ⟨_, _, ?_, ?_, h⟩ <;> simp only [LF_X6_switchThermos_2, LF_X12_heat_144, rf_16_0, bse, b1e, b2e, wre, nI_1, h.size, h.nm, nlt hi h.n20, if_false, if_true, h.at hi, ck_U hu', b2t, b2f, rf_U0 hu', one0, zer0, wh8, ia8, whM, Bool.true_and, Bool.false_and, e8, e63]
    | false =>
      refine ⟨_, _, ?_, ?_, h⟩ <;> simp only [LF_X6_switchThermos_2, LF_X12_heat_144, rf_16_0, bse, b1e, b2e, wre, nI_1, h.size, h.nm, nlt hi h.n20, if_false, if_true, h.at hi, ck_U hu', b2t, b2f, rf_U0 hu', one0, zer0, wh8, ia8, whM, Bool.true_and, Bool.false_and, e8]
theorem heat_ok (hN : 5000 ≤ N) (hB : B + 20 < 2 ^ 30) (h : RC n cd pb L t s0 B D c m) : Sm (F_X6_warm N 16 (m 24 47) c L (GRf pb)) (F_X12_heat N 24 m L (GRf pb)) (RC n cd pb L t s0 (B + 20) D) := by
  obtain ⟨c1, e1, f1, g1⟩ := warm1 hN h
  have h1 : RC n cd pb L t s0 B D c1 m := h.cOut (fun o p _ z => f1 o p z)
  obtain ⟨c2, e2, f2, g2⟩ := warm2 hN h1 _ g1
  have h2 : RC n cd pb L t s0 B D c2 m := h1.cOut (fun o p _ z => f2 o p z)
  obtain ⟨m1, e3, f3, g3⟩ := heatM1 hN h2
  have h3 : RC n cd pb L t s0 B D c2 m1 := h2.mOut (fun o p z1 _ z2 _ => f3 o p z1 z2)
  obtain ⟨c4, m4, e4, e5, h4, g4⟩ := heat3 hN h3 (fun j hj => by rw [g2 j hj, HV_A1, g3 j hj])
  obtain ⟨c5, m5, e6, e7, h5⟩ := break_ok hN hB h4 g4
  obtain ⟨c6, m6, e8, e9, h6⟩ := thermo_ok hN h5
  refine ⟨c6, m6, ?_, ?_, h6⟩
  · simp only [F_X6_warm, ck_16, if_true]
    rw [show (0 : Int32) = nI 0 from rfl, e1]
    simp only [b1e]
    rw [e2]
    simp only [b1e]
    rw [e4]
    simp only [b1e, e6, e8]
  · simp only [F_X12_heat, ck_24, if_true]
    rw [show (0 : Int32) = nI 0 from rfl, e3]
    simp only [b1e]
    rw [e5]
    simp only [b1e]
    rw [e7]
    simp only [b1e]
    rw [show (0 : Int32) = nI 0 from rfl] at e9
    rw [e9]
    rfl
end P2
