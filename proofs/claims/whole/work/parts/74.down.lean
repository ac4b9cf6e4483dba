/-! T3: what goes down -/
section P8
variable {N n : Nat} {cd : Nat → Nat} {pb : Nat} {L : ML} {t s0 B D : Nat} {c m : MI}
theorem RC.monoD (h : RC n cd pb L t s0 B D c m) {D' : Nat} (hD : D ≤ D') (hl : D' < 2 ^ 30) : RC n cd pb L t s0 B D' c m := by
  obtain ⟨h1, h2, a1, a2, a3, ⟨k, k1, k2⟩, a5, a6⟩ := h
  exact ⟨h1, h2, a1, a2, a3, ⟨k, by omega, k2⟩, hl, a6⟩
theorem RC.dn (h : RC n cd pb L t s0 B D c m) : ∃ d, d ≤ D ∧ D < 2 ^ 30 ∧ m 24 43 = nI d := by
  obtain ⟨h1, h2, a1, a2, a3, ⟨k, k1, k2⟩, a5, a6⟩ := h
  exact ⟨k, k1, a5, k2⟩
/-- one byte more went down: the class's side c' and any reference memory M' that says so -/
theorem RC.sent {d : Nat} {x : Int32} {c' M' : MI} (h : RC n cd pb L t s0 B D c m) (hd : m 24 43 = nI d) (hdD : d ≤ D) (hD : D + 1 < 2 ^ 30)
    (hc : c' = uI (uI c 19 (d % 500) x) 18 1 (nI (d + 1))) (hM : M' = uI (uI m 46 (d % 500) x) 24 43 (nI (d + 1))) : RC n cd pb L t s0 B (D + 1) c' M' := by
  have hn := h.n20
  subst hc hM
  refine ⟨(h.1.up (Or.inr (Or.inr (Or.inr (Or.inr (Or.inl ⟨rfl, rfl, Nat.mod_lt _ (by decide), rfl⟩))))) rfl).up (Or.inr (Or.inl ⟨rfl, by decide⟩)) rfl, h.2.1.congr (fun o p z => by unfold stc at z; rw [uI_at (by omega), uI_at (by omega)]) (fun o p z => by unfold stm at z; rw [uI_at (by omega), uI_at (by omega)]), ?_⟩
  obtain ⟨a1, a2, a3, a4, a5, a6, ⟨x, y, b1, b2, b3, b4, b5⟩, ⟨g, e, f, g1, g2, g3, g4, g5, g6, g7⟩, a9, a10⟩ := h.2.2
  refine ⟨by rw [uI_at (by omega), uI_at (by omega)]; exact a1, a2, by rw [uI_at (by omega), uI_at (by omega)]; exact a3, ⟨d + 1, by omega, uI_same⟩, hD, a6, ⟨x, y, by rw [uI_at (by omega), uI_at (by omega)]; exact b1, by rw [uI_at (by omega), uI_at (by omega)]; exact b2, b3, b4, by rw [uI_at (by omega), uI_at (by omega)]; exact b5⟩, ⟨g, e, f, g1, g2, g3, by rw [uI_at (by omega), uI_at (by omega)]; exact g4, by rw [uI_at (by omega), uI_at (by omega)]; exact g5, by rw [uI_at (by omega), uI_at (by omega)]; exact g6, by rw [uI_at (by omega), uI_at (by omega)]; exact g7⟩, ?_, fun u hu => by rw [uI_at (by omega), uI_at (by omega)]; exact a10 u hu⟩
  intro u hu h5
  have e : U u = 58 + 4 * u := rfl
  exact (a9 u hu h5).congr (by rw [uI_at (by omega), uI_at (by omega)]) (fun q => by rw [uI_at (by omega), uI_at (by omega)]) (by rw [uI_at (by omega), uI_at (by omega)]) (by rw [uI_at (by omega), uI_at (by omega)]) (fun i hi => by rw [uI_at (by omega), uI_at (by omega)])
/-- the first byte that is kept is dropped -/
theorem RC.drop {u l : Nat} {c' M' : MI} {hd : Nat} (h : RC n cd pb L t s0 B D c m) (hu : u < n) (h5 : cd u = 5) (hl : m 37 (65 * u + 10) = nI (l + 1)) (hl2 : l + 1 ≤ 2000) (hh : c (U u) 9 = nI hd) (hh2 : hd < 2000)
    (hc : c' = uI (uI c (U u) 9 (nI ((hd + 1) % 2000))) (U u + 1) 10 (nI l)) (m1 : ∀ i, i < l → M' 47 (2000 * u + i) = m 47 (2000 * u + i + 1)) (m2 : M' 37 (65 * u + 10) = nI l)
    (m5 : ∀ o p, ¬ (o = 37 ∧ p = 65 * u + 10) → ¬ (o = 47 ∧ 2000 * u ≤ p ∧ p < 2000 * u + 2000) → M' o p = m o p) : RC n cd pb L t s0 B D c' M' := by
  have hn := h.n20
  subst hc
  have e : U u = 58 + 4 * u := rfl
  have q1 : RQ (ob n cd) pb (uI c (U u) 9 (nI ((hd + 1) % 2000))) m := h.1.out (fun o p z => uI_at (by omega)) (fun _ _ _ => rfl)
  have q2 := q1.up (o := U u + 1) (p := 10) (a := 37) (b := 65 * u + 10) (v := nI l) (w := nI l) (Or.inl ⟨u, by omega, by decide, ⟨hu, fun q => by omega, fun q => by omega, fun q => by omega, fun q => by omega⟩, by omega, rfl, rfl⟩) rfl
  refine ⟨q2.out (fun _ _ _ => rfl) (fun o p z => ?_), h.2.1.congr (fun o p z => by unfold stc at z; rw [uI_at (by omega), uI_at (by omega)]) (fun o p z => ?_), ?_⟩
  · by_cases q : o = 37 ∧ p = 65 * u + 10
    · obtain ⟨rfl, rfl⟩ := q
      rw [uI_same]; exact m2
    · rw [uI_at q]; exact m5 o p q (by omega)
  · refine m5 o p ?_ (by unfold stm at z; omega)
    rintro ⟨rfl, rfl⟩
    unfold stm dynP at z
    omega
  · obtain ⟨a1, a2, a3, a4, a5, a6, a7, a8, a9, a10⟩ := h.2.2
    have f24 : ∀ p, M' 24 p = m 24 p := fun p => m5 24 p (by omega) (by omega)
    unfold DY
    simp only [f24]
    refine ⟨a1, a2, a3, a4, a5, a6, a7, a8, ?_, fun v hv => by rw [m5 _ _ (by omega) (by omega)]; exact a10 v hv⟩
    intro v hv hv5
    have ev : U v = 58 + 4 * v := rfl
    by_cases q : v = u
    · subst q
      obtain ⟨h2, l2, r2, k1, k2, k3, k4, k5, k6, k7⟩ := a9 v hv hv5
      have e1 : h2 = hd := (nI_eq (by omega) (by omega)).mp (k4.symm.trans hh)
      have e2 : l2 = l + 1 := (nI_eq (by omega) (by omega)).mp (k5.symm.trans hl)
      subst e1 e2
      refine ⟨(h2 + 1) % 2000, l, r2, Nat.mod_lt _ (by decide), by omega, k3, by rw [uI_at (by omega), uI_same], m2, by rw [m5 _ _ (by omega) (by omega)]; exact k6, ?_⟩
      intro i hi
      rw [uI_at (by omega), uI_at (by omega), m1 i hi]
      have := k7 (i + 1) (by omega)
      rw [show ((h2 + 1) % 2000 + i) % 2000 = (h2 + (i + 1)) % 2000 by omega]
      exact this
    · exact (a9 v hv hv5).congr (by rw [uI_at (by omega), uI_at (by omega)]) (fun p => by rw [uI_at (by omega), uI_at (by omega)]) (m5 _ _ (by omega) (by omega)) (m5 _ _ (by omega) (by omega)) (fun i hi => m5 _ _ (by omega) (by omega))
theorem send1C {d : Nat} {x : Int32} (hd : c 18 1 = nI d) (hd2 : d < 2 ^ 30) : F_X1_send 18 x c L (GRf pb) = some (uI (uI c 19 (d % 500) x) 18 1 (nI (d + 1))) := by
  have fm : ∀ (I : MI), F_J9_floorMod_7cf53 (nI d) 500 I L (GRf pb) = some (nI (d % 500)) := fun I => by
    rw [fm_val (by decide)]; exact congrArg some (md_nI (d := 500) (by omega) (by decide) (by decide))
  have w : ∀ v, wi c 19 (nI (d % 500)) v = some (uI c 19 (d % 500) v) := fun v => wi_nI ln_19 (Nat.mod_lt _ (by decide)) (by decide)
  have r : ∀ v, uI c 19 (d % 500) v 18 1 = nI d := fun v => by rw [uI_at (by omega)]; exact hd
  simp only [F_X1_send, ck_18, if_true, rf_18_0, bse, hd, fm, b1e, w, wre, r, nI_1]
theorem goesM {d w : Nat} {x : Int32} (hw : w < 20) (hd : m 24 43 = nI d) (hd2 : d < 2 ^ 30) : F_X12_goesDown 24 (nI w) x m L (GRf pb) = some (uI (uI (uI m 46 (d % 500) x) 24 43 (nI (d + 1))) 37 (65 * w + 51) (m 37 (65 * w + 51) + 1)) := by
  have f : iR (nI d) 500 = nI (d % 500) := iR_nI (d := 500) (by omega) (by decide) (by decide)
  have wq : ∀ v, wi m 46 (nI (d % 500)) v = some (uI m 46 (d % 500) v) := fun v => wi_nI ln_46 (Nat.mod_lt _ (by decide)) (by decide)
  have r : ∀ v, uI m 46 (d % 500) v 24 43 = nI d := fun v => by rw [uI_at (by omega)]; exact hd
  have r2 : ∀ v z, uI (uI m 46 (d % 500) v) 24 43 z 37 (65 * w + 51) = m 37 (65 * w + 51) := fun v z => by rw [uI_at (by omega), uI_at (by omega)]
  simp only [F_X12_goesDown, ck_24, if_true, rf_24_51, bse, hd, f, wq, wre, r, nI_1, gw_51 hw, r2, b1e]
def shM (b : MI) (u k l : Nat) : MI := fun o p => if o = 47 ∧ 2000 * u ≤ p ∧ p < 2000 * u + (l - k) then b 47 (p + k) else if o = 37 ∧ p = 65 * u + 10 then nI (l - k) else b o p
theorem shM_o {b : MI} {u k l o p : Nat} (h1 : ¬ (o = 37 ∧ p = 65 * u + 10)) (h2 : ¬ (o = 47 ∧ 2000 * u ≤ p ∧ p < 2000 * u + (l - k))) : shM b u k l o p = b o p := by
  unfold shM
  rw [if_neg h2, if_neg h1]
theorem shM_k {b : MI} {u k l i : Nat} (h : i < l - k) : shM b u k l 47 (2000 * u + i) = b 47 (2000 * u + i + k) := by
  unfold shM
  rw [if_pos ⟨rfl, by omega, by omega⟩]
theorem shM_l {b : MI} {u k l : Nat} : shM b u k l 37 (65 * u + 10) = nI (l - k) := by
  unfold shM
  rw [if_neg (by omega), if_pos ⟨rfl, rfl⟩]
/-- the bytes that one recorder sends: the class takes them one by one, the reference all and moves the rest -/
theorem rec_ok {u w l q R s : Nat} {x0 : Int32} {a b : MI} (hN : 5000 ≤ N) (hu : u < n) (hw : w < 20) (h5 : cd u = 5) (hl : b 37 (65 * u + 10) = nI l) (hl2 : l ≤ 2000) (hR : R ≤ 40) (hs : s ≤ R) (hq : q = min (R - s) l) (hD : D + q < 2 ^ 30)
    (h : RC n cd pb L t s0 B D a (uI b 37 (65 * w + 51) x0)) (y3 : Int32) : ∃ a' b', LF_X2_sendKept_34 N N 10 (nI R) (nI s) y3 (U u) a L (GRf pb) = some (nI (s + q), a') ∧ LF_X12_send_38 N N 24 (nI w) (nI (R - s)) (nI u) (nI q) (nI 0) b L (GRf pb) = some b' ∧ RC n cd pb L t s0 B (D + q) a' (shM (uI b' 37 (65 * w + 51) x0) u q l) ∧ b' 37 (65 * w + 51) = b 37 (65 * w + 51) + nI q ∧ (∀ o p, o ≠ 46 → ¬ (o = 24 ∧ p = 43) → ¬ (o = 37 ∧ p = 65 * w + 51) → b' o p = b o p) := by
  have hn := h.n20
  have hu20 := h.lt20 hu
  have hu' : u ≤ 20 := by omega
  have key : ∀ (d k kc kr : Nat) (a2 b2 : MI), k + d = q → d < kc → d < kr → RC n cd pb L t s0 B (D + k) a2 (shM (uI b2 37 (65 * w + 51) x0) u k l) → b2 37 (65 * w + 51) = b 37 (65 * w + 51) + nI k → (∀ o p, o ≠ 46 → ¬ (o = 24 ∧ p = 43) → ¬ (o = 37 ∧ p = 65 * w + 51) → b2 o p = b o p) →
      ∃ a' b', LF_X2_sendKept_34 N kc 10 (nI R) (nI (s + k)) y3 (U u) a2 L (GRf pb) = some (nI (s + q), a') ∧ LF_X12_send_38 N kr 24 (nI w) (nI (R - s)) (nI u) (nI q) (nI k) b2 L (GRf pb) = some b' ∧ RC n cd pb L t s0 B (D + q) a' (shM (uI b' 37 (65 * w + 51) x0) u q l) ∧ b' 37 (65 * w + 51) = b 37 (65 * w + 51) + nI q ∧ (∀ o p, o ≠ 46 → ¬ (o = 24 ∧ p = 43) → ¬ (o = 37 ∧ p = 65 * w + 51) → b' o p = b o p) := by
    intro d
    induction d with
    | zero =>
      intro k kc kr a2 b2 hk hkc hkr h2 hs2 hb2
      obtain ⟨kc, rfl⟩ : ∃ z, kc = z + 1 := ⟨kc - 1, by omega⟩
      obtain ⟨kr, rfl⟩ : ∃ z, kr = z + 1 := ⟨kr - 1, by omega⟩
      have : k = q := by omega
      subst this
      refine ⟨a2, b2, ?_, ?_, h2, hs2, hb2⟩
      · by_cases z : R ≤ s + k
        · simp only [LF_X2_sendKept_34, if_pos (nI_le z (by omega))]
        · have e10 := h2.pt (k := 10) hu (by decide) (by decide) (by decide) (by decide) (by decide)
          rw [shM_l, show l - k = 0 by omega] at e10
          simp only [LF_X2_sendKept_34, if_neg (nI_ge (show s + k < R by omega) (by omega)), rf_U0 hu', bse, rp_10 hu', e10, if_pos (show nI 0 ≤ 0 by decide)]
      · simp only [LF_X12_send_38, if_pos (nI_le (Nat.le_refl k) (by omega))]
    | succ d ih =>
      intro k kc kr a2 b2 hk hkc hkr h2 hs2 hb2
      obtain ⟨kc, rfl⟩ : ∃ z, kc = z + 1 := ⟨kc - 1, by omega⟩
      obtain ⟨kr, rfl⟩ : ∃ z, kr = z + 1 := ⟨kr - 1, by omega⟩
      have hkq : k < q := by omega
      obtain ⟨dd, d1, d2, d3⟩ := h2.dn
      have d3' : b2 24 43 = nI dd := by
        rw [shM_o (by omega) (by omega), uI_at (by omega)] at d3; exact d3
      have cd1 : a2 18 1 = nI dd := (h2.sc (o := 18) (p := 1) (b := 43) (by decide)).trans d3
      obtain ⟨hd, l2, r2, k1, k2, k3, k4, k5, k6, k7⟩ := h2.kp hu h5
      have el : l2 = l - k := (nI_eq (by omega) (by omega)).mp (k5.symm.trans shM_l)
      have e10 := h2.pt (k := 10) hu (by decide) (by decide) (by decide) (by decide) (by decide)
      rw [shM_l] at e10
      have k70 := k7 0 (by omega)
      rw [shM_k (by omega), uI_at (by omega)] at k70
      simp only [Nat.add_zero, Nat.mod_eq_of_lt k1] at k70
      -- the class's step
      have fm0 : ∀ (I : MI), F_J9_floorMod_7cf53 (nI hd + 0) 2000 I L (GRf pb) = some (nI hd) := fun I => by
        rw [Int32.add_zero, fm_val (by decide)]; refine congrArg some ?_
        have := md_nI (a := hd) (d := 2000) (by omega) (by decide) (by decide)
        rw [Nat.mod_eq_of_lt k1] at this; exact this
      have kb : F_X9_keptByte (U u) 0 a2 L (GRf pb) = some (b2 47 (2000 * u + k)) := by
        simp only [F_X9_keptByte, ck_U hu', if_true, if_neg (show ¬ (0 : Int32) < 0 by decide), rf_U0 hu', bse, rp_10 hu', e10, if_neg (nI_nle (show 0 < l - k by omega) (by omega)), rf_U2 hu', k4, fm0, b1e, ri_nI (ln_U3 hu') k1 (show 2000 < 2 ^ 31 by decide), k70]
      have hs1 := h2.sent (x := b2 47 (2000 * u + k)) d3 d1 (by omega) rfl rfl
      have sC := send1C (pb := pb) (L := L) (x := b2 47 (2000 * u + k)) cd1 (by omega)
      have e : U u = 58 + 4 * u := rfl
      have k4' : uI (uI a2 19 (dd % 500) (b2 47 (2000 * u + k))) 18 1 (nI (dd + 1)) (U u) 9 = nI hd := by rw [uI_at (by omega), uI_at (by omega)]; exact k4
      have e10' : uI (uI a2 19 (dd % 500) (b2 47 (2000 * u + k))) 18 1 (nI (dd + 1)) (U u + 1) 10 = nI (l - k) := by rw [uI_at (by omega), uI_at (by omega)]; exact e10
      generalize hc3 : uI (uI a2 19 (dd % 500) (b2 47 (2000 * u + k))) 18 1 (nI (dd + 1)) = c3 at *
      have fm1 : ∀ (I : MI), F_J9_floorMod_7cf53 (nI (hd + 1)) 2000 I L (GRf pb) = some (nI ((hd + 1) % 2000)) := fun I => by
        rw [fm_val (by decide)]; exact congrArg some (md_nI (d := 2000) (by omega) (by decide) (by decide))
      have e10'' : ∀ v, uI c3 (U u) 9 v (U u + 1) 10 = nI (l - k) := fun v => by rw [uI_at (by omega)]; exact e10'
      have ps : nI (l - k) - 1 = nI (l - k - 1) := pk_sub (b := 1) (by omega)
      have dC : F_X9_dropFirst (U u) c3 L (GRf pb) = some (uI (uI c3 (U u) 9 (nI ((hd + 1) % 2000))) (U u + 1) 10 (nI (l - k - 1))) := by
        simp only [F_X9_dropFirst, ck_U hu', if_true, k4', nI_1, fm1, b1e, wre, rf_U0 hu', bse, rp_10 hu', e10'', ps, wp_10 hu']
      -- the reference's step
      have hg := goesM (pb := pb) (L := L) (x := b2 47 (2000 * u + k)) hw d3' (by omega)
      generalize hb3 : uI (uI (uI b2 46 (dd % 500) (b2 47 (2000 * u + k))) 24 43 (nI (dd + 1))) 37 (65 * w + 51) (b2 37 (65 * w + 51) + 1) = b3 at *
      have b3o : ∀ o p, o ≠ 46 → ¬ (o = 24 ∧ p = 43) → ¬ (o = 37 ∧ p = 65 * w + 51) → b3 o p = b2 o p := fun o p z1 z2 z3 => by
        rw [← hb3, uI_at z3, uI_at z2, uI_at (fun z => z1 z.1)]
      have b3s : b3 37 (65 * w + 51) = b2 37 (65 * w + 51) + 1 := by rw [← hb3, uI_same]
      have b346 : ∀ p, b3 46 p = uI b2 46 (dd % 500) (b2 47 (2000 * u + k)) 46 p := fun p => by rw [← hb3, uI_at (by omega), uI_at (by omega)]
      have b343 : b3 24 43 = nI (dd + 1) := by rw [← hb3, uI_at (by omega), uI_same]
      have h4 : RC n cd pb L t s0 B (D + k + 1) (uI (uI c3 (U u) 9 (nI ((hd + 1) % 2000))) (U u + 1) 10 (nI (l - k - 1))) (shM (uI b3 37 (65 * w + 51) x0) u (k + 1) l) := by
        refine hs1.drop (l := l - k - 1) hu h5 (by rw [uI_at (by omega), uI_at (by omega), shM_l, show l - k - 1 + 1 = l - k by omega]) (by omega) k4' k1 rfl ?_ ?_ ?_
        · intro i hi
          rw [shM_k (by omega), uI_at (by omega), b3o _ _ (by decide) (by omega) (by omega), uI_at (by omega), uI_at (by omega), show 2000 * u + i + 1 = 2000 * u + (i + 1) from rfl, shM_k (by omega), uI_at (by omega)]
          congr 1; omega
        · rw [shM_l, show l - (k + 1) = l - k - 1 by omega]
        · intro o p z1 z2
          rw [shM_o z1 (fun z => z2 ⟨z.1, z.2.1, by omega⟩)]
          by_cases q43 : o = 24 ∧ p = 43
          · obtain ⟨rfl, rfl⟩ := q43
            rw [uI_at (by omega), b343, uI_same]
          · rw [uI_at q43]
            by_cases q46 : o = 46
            · subst q46
              rw [uI_at (by omega), b346]
              by_cases qp : p = dd % 500
              · subst qp; rw [uI_same, uI_same]
              · rw [uI_at (by omega), uI_at (by omega), shM_o (by omega) (by omega), uI_at (by omega)]
            · rw [uI_at (show ¬ (o = 46 ∧ _) from fun z => q46 z.1), shM_o z1 (fun z => z2 ⟨z.1, z.2.1, by omega⟩)]
              by_cases qs : o = 37 ∧ p = 65 * w + 51
              · obtain ⟨rfl, rfl⟩ := qs
                rw [uI_same, uI_same]
              · rw [uI_at qs, uI_at qs, b3o o p q46 q43 qs]
      obtain ⟨a', b', i1, i2, i3, i4, i5⟩ := ih (k + 1) kc kr _ b3 (by omega) (by omega) (by omega) h4 (by rw [b3s, hs2, Int32.add_assoc, nI_1]) (fun o p z1 z2 z3 => by rw [b3o o p z1 z2 z3]; exact hb2 o p z1 z2 z3)
      refine ⟨a', b', ?_, ?_, i3, i4, i5⟩
      · rw [← i1]
        simp only [LF_X2_sendKept_34, if_neg (nI_ge (show s + k < R by omega) (by omega)), rf_U0 hu', bse, rp_10 hu', e10, if_neg (nI_nle (show 0 < l - k by omega) (by omega)), rf_10_3, kb, b1e, sC, dC, wre, nI_1, Nat.add_assoc]
      · rw [← i2]
        have mi : (2000 : Int32) * nI u + nI k = nI (2000 * u + k) := by rw [← nI_add, ← pk_mul]; rfl
        simp only [LF_X12_send_38, if_neg (nI_ge hkq (by omega)), rf_24_52, bse, mi, ri_nI ln_47 (show 2000 * u + k < 40000 by omega) (show 40000 < 2 ^ 31 by decide), hg, b1e, wre, nI_1]
  have h0 : RC n cd pb L t s0 B (D + 0) a (shM (uI b 37 (65 * w + 51) x0) u 0 l) := by
    have e : shM (uI b 37 (65 * w + 51) x0) u 0 l = uI b 37 (65 * w + 51) x0 := by
      funext o p
      unfold shM
      by_cases z1 : o = 47 ∧ 2000 * u ≤ p ∧ p < 2000 * u + (l - 0)
      · rw [if_pos z1, z1.1]; rfl
      · rw [if_neg z1]
        by_cases z2 : o = 37 ∧ p = 65 * u + 10
        · rw [if_pos z2, z2.1, z2.2, uI_at (by omega), hl, Nat.sub_zero]
        · rw [if_neg z2]
    rw [e]; exact h
  exact key q 0 N N a b (by omega) (by omega) (by omega) h0 (by rw [show nI 0 = 0 from rfl, Int32.add_zero]) (fun _ _ _ _ _ => rfl)
/-- the reference moves the bytes that stay -/
theorem shift_ok {u q l : Nat} {b : MI} (hN : 5000 ≤ N) (hu : u < 20) (hl : b 37 (65 * u + 10) = nI l) (hl2 : l ≤ 2000) (hq : q ≤ l) (y1 y2 : Int32) : ∃ b', LF_X12_send_73 N N 24 y1 y2 (nI u) (nI q) (nI q) b L (GRf pb) = some b' ∧ ∀ o p, b' o p = if o = 47 ∧ 2000 * u ≤ p ∧ p < 2000 * u + (l - q) then b 47 (p + q) else b o p := by
  refine loop1 (f := fun k i I => LF_X12_send_73 N k 24 y1 y2 (nI u) (nI q) (nI (q + i)) I L (GRf pb)) (R := fun i I => ∀ o p, I o p = if o = 47 ∧ 2000 * u ≤ p ∧ p < 2000 * u + i then b 47 (p + q) else b o p) (l - q) ?_ ?_ (l - q) 0 N b (by omega) (by omega) (fun o p => by rw [if_neg (by omega)])
  · intro k a ha
    have e : a 37 (65 * u + 10) = nI l := by rw [ha, if_neg (by omega)]; exact hl
    exact ⟨a, by simp only [LF_X12_send_73, gt_10 hu, e, b1e, if_pos (nI_le (show l ≤ q + (l - q) by omega) (by omega))], ha⟩
  · intro k i a hi ha
    have e : a 37 (65 * u + 10) = nI l := by rw [ha, if_neg (by omega)]; exact hl
    have mi : (2000 : Int32) * nI u + nI (q + i) = nI (2000 * u + (q + i)) := by rw [show (2000 : Int32) * nI u = nI (2000 * u) from pk_mul 2000 u, nI_add]
    have ms : nI (2000 * u + (q + i)) - nI q = nI (2000 * u + i) := by rw [pk_sub (by omega)]; congr 1; omega
    refine ⟨uI a 47 (2000 * u + i) (a 47 (2000 * u + (q + i))), ?_, ?_⟩
    · simp only [LF_X12_send_73, gt_10 hu, e, b1e, if_neg (nI_ge (show q + i < l by omega) (by omega)), rf_24_52, bse, mi, ri_nI ln_47 (show 2000 * u + (q + i) < 40000 by omega) (show 40000 < 2 ^ 31 by decide), ms, wi_nI ln_47 (show 2000 * u + i < 40000 by omega) (show 40000 < 2 ^ 31 by decide), wre, nI_1, Nat.add_assoc]
    · intro o p
      by_cases z : o = 47 ∧ p = 2000 * u + i
      · obtain ⟨rfl, rfl⟩ := z
        rw [uI_same, ha, if_neg (by omega), if_pos (by omega)]
        congr 1; omega
      · rw [uI_at z, ha]
        by_cases z2 : o = 47 ∧ 2000 * u ≤ p ∧ p < 2000 * u + i
        · rw [if_pos z2, if_pos (by omega)]
        · rw [if_neg z2, if_neg (by omega)]
def pK (cd : Nat → Nat) (X : Nat → Int32) (i : Nat) : Bool := isL (cd i) 5 && (decide (X (65 * i + 63) = 0) && !decide (X (65 * i + 10) ≤ 0))
theorem first_ok {w : Nat} {x0 : Int32} (hN : 5000 ≤ N) (h : RC n cd pb L t s0 B D c (uI m 37 (65 * w + 51) x0)) : F_X12_firstKeeping N 24 m L (GRf pb) = some (fd (pK cd (m 37)) n (-1)) := by
  have hn := h.n20
  have nm : m 24 21 = nI n := h.nm
  have key := down1 (f := fun k i z => LF_X12_firstKeeping_9 N k 24 z (nI i - 1) m L (GRf pb)) (p := pK cd (m 37)) n ?_ ?_ n N (-1) (by omega) (by omega)
  · simp only [F_X12_firstKeeping, ck_24, if_true, wre, nm]
    rw [key]
    rfl
  · intro k z
    simp only [LF_X12_firstKeeping_9, nI_m0, if_true]
  · intro k i z hi
    have hu := h.lt20 hi
    have z0 : (nI i < 0) = False := eq_false (nI_pos (by omega))
    have h0 : m 37 (65 * i) = nI (cd i) := by
      have := (h.un hi).2.2.2.2.1
      rw [uI_at (by omega)] at this; exact this
    have ia5 : F_X12_isA N 24 (nI i) 5 m L (GRf pb) = some (isL (cd i) 5) := isA_ok (l := 5) (by omega) (fun j hj => h.cm j hj) hu (h.cd29 hi) (by decide) h0
    have whm : F_X12_isWhole 24 (nI i) m L (GRf pb) = _ := wholeM_ok hu
    unfold pK
    cases e5 : isL (cd i) 5 with
    | false => simp only [LF_X12_firstKeeping_9, nI_pred, z0, if_false, ia5, e5, b1e, b2f, if_true, wre, nI_m, Bool.false_and, cond_false]
    | true =>
      cases e63 : decide (m 37 (65 * i + 63) = 0) with
      | false => simp only [LF_X12_firstKeeping_9, nI_pred, z0, if_false, ia5, e5, b1e, b2t, b2f, if_true, wre, nI_m, whm, e63, Bool.true_and, Bool.false_and, cond_false]
      | true =>
        by_cases e : m 37 (65 * i + 10) ≤ 0
        · simp only [LF_X12_firstKeeping_9, nI_pred, z0, if_false, ia5, e5, b1e, b2t, b2f, if_true, wre, nI_m, whm, e63, gt_10 hu, if_pos e, decide_eq_true e, Bool.true_and, Bool.not_true, cond_false]
        · simp only [LF_X12_firstKeeping_9, nI_pred, z0, if_false, ia5, e5, b1e, b2t, b2f, if_true, wre, nI_m, whm, e63, gt_10 hu, if_neg e, decide_eq_false e, Bool.true_and, Bool.not_false, cond_true]
theorem kept_ok {w R : Nat} {x0 : Int32} (hN : 5000 ≤ N) (hw : w < 20) (hR : R ≤ 40) (hD : D + 40 < 2 ^ 30) : ∀ (d i kc kr s : Nat) (a b : MI), i + d = n → d < kc → d < kr → s ≤ R → (s = R ∨ ∀ j, j < i → pK cd (b 37) j = false) → RC n cd pb L t s0 B (D + s) a (uI b 37 (65 * w + 51) x0) → b 37 (65 * w + 51) = x0 + nI s →
    ∃ s' a' b', LF_X2_sendKept_4 N kc 10 (nI R) (nI s) (nI i) a L (GRf pb) = some (nI s', a') ∧ LF_X12_send_13 N kr 24 (nI w) (nI (R - s)) (fd (pK cd (b 37)) n (-1)) b L (GRf pb) = some b' ∧ s' ≤ R ∧ RC n cd pb L t s0 B (D + s') a' (uI b' 37 (65 * w + 51) x0) ∧ b' 37 (65 * w + 51) = x0 + nI s' := by
  intro d
  induction d with
  | zero =>
    intro i kc kr s a b hi hkc hkr hs hp h hb
    obtain ⟨kc, rfl⟩ : ∃ z, kc = z + 1 := ⟨kc - 1, by omega⟩
    obtain ⟨kr, rfl⟩ : ∃ z, kr = z + 1 := ⟨kr - 1, by omega⟩
    have : i = n := by omega
    subst this
    refine ⟨s, a, b, ?_, ?_, hs, h, hb⟩
    · simp only [LF_X2_sendKept_4, rf_10_0, bse, h.size, b1e, nle h.n20, if_true]
    · by_cases z : R - s = 0
      · rw [z]; simp only [LF_X12_send_13, if_pos (show nI 0 ≤ 0 by decide)]
      · rw [fd_none _ _ (hp.resolve_left (by omega))]
        simp only [LF_X12_send_13, if_neg (nI_nle (show 0 < R - s by omega) (by omega)), m1_m1, if_true]
  | succ d ih =>
    intro i kc kr s a b hi hkc hkr hs hp h hb
    obtain ⟨kc, rfl⟩ : ∃ z, kc = z + 1 := ⟨kc - 1, by omega⟩
    have hin : i < n := by omega
    have hu := h.lt20 hin
    have hu' : i ≤ 20 := by omega
    have wh5 : F_X9_isWhole (U i) 5 a L (GRf pb) = some (isL (cd i) 5 && decide (b 37 (65 * i + 63) = 0)) := by
      have z : F_X9_isWhole (U i) 5 a L (GRf pb) = _ := h.wh (l := 5) hin (by decide)
      rw [uI_at (by omega)] at z; exact z
    -- no step of the reference
    have skip : ∀ (hc : LF_X2_sendKept_4 N (kc + 1) 10 (nI R) (nI s) (nI i) a L (GRf pb) = LF_X2_sendKept_4 N kc 10 (nI R) (nI s) (nI (i + 1)) a L (GRf pb)) (hp' : s = R ∨ ∀ j, j < i + 1 → pK cd (b 37) j = false), ∃ s' a' b', LF_X2_sendKept_4 N (kc + 1) 10 (nI R) (nI s) (nI i) a L (GRf pb) = some (nI s', a') ∧ LF_X12_send_13 N kr 24 (nI w) (nI (R - s)) (fd (pK cd (b 37)) n (-1)) b L (GRf pb) = some b' ∧ s' ≤ R ∧ RC n cd pb L t s0 B (D + s') a' (uI b' 37 (65 * w + 51) x0) ∧ b' 37 (65 * w + 51) = x0 + nI s' := by
      intro hc hp'
      rw [hc]
      exact ih (i + 1) kc kr s a b (by omega) (by omega) (by omega) hs hp' h hb
    cases ew : (isL (cd i) 5 && decide (b 37 (65 * i + 63) = 0)) with
    | false =>
      refine skip ?_ ?_
      · simp only [LF_X2_sendKept_4, rf_10_0, bse, h.size, b1e, b2e, nlt hin h.n20, if_false, if_true, h.at hin, ck_U hu', wh5, ew, b2f, wre, nI_1]
      · rcases hp with hp | hp
        · exact Or.inl hp
        · refine Or.inr (fun j hj => ?_)
          by_cases q : j = i
          · subst q
            unfold pK
            rw [← Bool.and_assoc, ew, Bool.false_and]
          · exact hp j (by omega)
    | true =>
      have e5 : cd i = 5 := i5 _ (h.cd29 hin) (by rw [Bool.and_eq_true] at ew; exact ew.1)
      obtain ⟨hd, l, r, k1, k2, k3, k4, k5, k6, k7⟩ := h.kp hin e5
      have k5 : b 37 (65 * i + 10) = nI l := by rw [uI_at (by omega)] at k5; exact k5
      by_cases hsR : s = R
      · subst hsR
        have z34 : LF_X2_sendKept_34 N N 10 (nI s) (nI s) (nI i) (U i) a L (GRf pb) = some (nI s, a) := by
          obtain ⟨k, hk⟩ : ∃ z, N = z + 1 := ⟨N - 1, by omega⟩
          have : ∀ N', LF_X2_sendKept_34 N' (k + 1) 10 (nI s) (nI s) (nI i) (U i) a L (GRf pb) = some (nI s, a) := fun N' => by
            simp only [LF_X2_sendKept_34, if_pos (nI_le (Nat.le_refl s) (by omega))]
          rw [← hk] at this
          exact this N
        refine skip ?_ (Or.inl rfl)
        simp only [LF_X2_sendKept_4, rf_10_0, bse, h.size, b1e, b2e, nlt hin h.n20, if_false, if_true, h.at hin, ck_U hu', wh5, ew, b2t, z34, wre, nI_1]
      · have hp := hp.resolve_left hsR
        obtain ⟨a2, b2, r1, r2, r3, r4, r5⟩ := rec_ok (q := min (R - s) l) (s := s) (R := R) hN hin hw e5 k5 (by omega) hR hs rfl (by omega) h (nI i)
        have hq1 : min (R - s) l ≤ l := Nat.min_le_right _ _
        have hq2 : min (R - s) l ≤ R - s := Nat.min_le_left _ _
        generalize hqq : min (R - s) l = q at *
        have stepC : LF_X2_sendKept_4 N (kc + 1) 10 (nI R) (nI s) (nI i) a L (GRf pb) = LF_X2_sendKept_4 N kc 10 (nI R) (nI (s + q)) (nI (i + 1)) a2 L (GRf pb) := by
          simp only [LF_X2_sendKept_4, rf_10_0, bse, h.size, b1e, b2e, nlt hin h.n20, if_false, if_true, h.at hin, ck_U hu', wh5, ew, b2t, r1, wre, nI_1]
        by_cases hl0 : l = 0
        · -- nothing kept there
          subst hl0
          have q0 : q = 0 := by omega
          subst q0
          have pi : pK cd (b 37) i = false := by
            unfold pK
            rw [k5, show decide (nI 0 ≤ 0) = true by decide, Bool.not_true, Bool.and_false, Bool.and_false]
          obtain ⟨kr2, hkr2⟩ : ∃ z, N = z + 1 := ⟨N - 1, by omega⟩
          have a2a : a2 = a := by
            have z : ∀ N', LF_X2_sendKept_34 N' (kr2 + 1) 10 (nI R) (nI s) (nI i) (U i) a L (GRf pb) = some (nI s, a) := fun N' => by
              have e10 := h.pt (k := 10) hin (by decide) (by decide) (by decide) (by decide) (by decide)
              rw [uI_at (by omega), k5] at e10
              simp only [LF_X2_sendKept_34, if_neg (nI_ge (show s < R by omega) (by omega)), rf_U0 hu', bse, rp_10 hu', e10, if_pos (show nI 0 ≤ 0 by decide)]
            rw [← hkr2] at z
            have := r1.symm.trans (z N)
            have := Option.some.inj this
            exact (Prod.mk.injEq _ _ _ _ ▸ this).2
          rw [stepC, a2a]
          exact ih (i + 1) kc kr s a b (by omega) (by omega) (by omega) hs (Or.inr (fun j hj => by
            by_cases q : j = i
            · subst q; exact pi
            · exact hp j (by omega))) h hb
        · have pi : pK cd (b 37) i = true := by
            unfold pK
            rw [← Bool.and_assoc, ew, k5, decide_eq_false (nI_nle (show 0 < l by omega) (by omega))]; rfl
          obtain ⟨kr, rfl⟩ : ∃ z, kr = z + 1 := ⟨kr - 1, by omega⟩
          have bl : b2 37 (65 * i + 10) = nI l := by rw [r5 _ _ (by decide) (by omega) (by omega)]; exact k5
          obtain ⟨b3, s1, s2⟩ := shift_ok (N := N) (pb := pb) (L := L) hN hu bl (by omega) hq1 (nI w) (nI (R - s))
          have s37 : ∀ p, b3 37 p = b2 37 p := fun p => by rw [s2, if_neg (by omega)]
          have gl : F_X12_grow 24 (nI i) 10 (-nI q) b3 L (GRf pb) = some (uI b3 37 (65 * i + 10) (nI (l - q))) := by
            rw [gw_10 hu, s37, bl, ← Int32.sub_eq_add_neg, pk_sub hq1]
          have h3 : RC n cd pb L t s0 B (D + (s + q)) a2 (uI (uI b3 37 (65 * i + 10) (nI (l - q))) 37 (65 * w + 51) x0) := by
            have e : uI (uI b3 37 (65 * i + 10) (nI (l - q))) 37 (65 * w + 51) x0 = shM (uI b2 37 (65 * w + 51) x0) i q l := by
              funext o p
              unfold shM
              by_cases z1 : o = 47 ∧ 2000 * i ≤ p ∧ p < 2000 * i + (l - q)
              · rw [if_pos z1, uI_at (by omega), uI_at (by omega), s2, if_pos z1, uI_at (by omega)]
              · rw [if_neg z1]
                by_cases z2 : o = 37 ∧ p = 65 * i + 10
                · rw [if_pos z2, uI_at (by omega), z2.1, z2.2, uI_same]
                · rw [if_neg z2]
                  by_cases z3 : o = 37 ∧ p = 65 * w + 51
                  · rw [z3.1, z3.2, uI_same, uI_same]
                  · rw [uI_at z3, uI_at z2, uI_at z3, s2, if_neg z1]
            rw [e, ← Nat.add_assoc]; exact r3
          have bs : uI b3 37 (65 * i + 10) (nI (l - q)) 37 (65 * w + 51) = x0 + nI (s + q) := by
            rw [uI_at (by omega), s37, r4, hb, Int32.add_assoc, nI_add]
          have pj : s + q = R ∨ ∀ j, j < i + 1 → pK cd (uI b3 37 (65 * i + 10) (nI (l - q)) 37) j = false := by
            by_cases z : s + q = R
            · exact Or.inl z
            · refine Or.inr (fun j hj => ?_)
              by_cases qj : j = i
              · subst qj
                unfold pK
                rw [uI_same, show l - q = 0 by omega, show decide (nI 0 ≤ 0) = true by decide, Bool.not_true, Bool.and_false, Bool.and_false]
              · have := hp j (by omega)
                unfold pK at this ⊢
                rw [uI_at (by omega), uI_at (by omega), s37, s37, r5 _ _ (by decide) (by omega) (by omega), r5 _ _ (by decide) (by omega) (by omega)]
                exact this
          have fk := first_ok hN h3
          obtain ⟨s', a', b', i1, i2, i3, i4, i5⟩ := ih (i + 1) kc kr (s + q) a2 _ (by omega) (by omega) (by omega) (by omega) pj h3 bs
          refine ⟨s', a', b', by rw [stepC]; exact i1, ?_, i3, i4, i5⟩
          rw [fd_some pi hp n _ hin, ← i2]
          have mn : mnv (nI (R - s)) (nI l) = nI q := by
            unfold mnv
            by_cases z : l ≤ R - s
            · rw [if_pos (nI_le z (by omega)), show l = q by omega]
            · rw [if_neg (nI_ge (show R - s < l by omega) (by omega)), show R - s = q by omega]
          have r2 : LF_X12_send_38 N N 24 (nI w) (nI (R - s)) (nI i) (nI q) 0 b L (GRf pb) = some b2 := r2
          simp only [LF_X12_send_13, if_neg (nI_nle (show 0 < R - s by omega) (by omega)), nI_m1 (show i < 2 ^ 31 by omega), if_false, gt_10 hu, k5, b1e, minM_val, mn, r2, s1, gl, wre, pk_sub hq2, fk, Nat.sub_sub]
theorem i20 : ∀ c, c < 29 → isL c 20 = true → isL c 6 = true := by decide
theorem i21 : ∀ c, c < 29 → isL c 21 = true → c = 21 := by decide
theorem send_ok (hN : 5000 ≤ N) (hD : D + 820 < 2 ^ 30) (h : RC n cd pb L t s0 B D c m) : Sm (F_X2_sendAll N 10 (nI t) c L (GRf pb)) (F_X12_downlink N 24 m L (GRf pb)) (RC n cd pb L t s0 B (D + 820)) := by
  have ht := h.tlt
  have hn := h.n20
  have fm : F_J9_floorMod_7cf53 (nI t) 600 c L (GRf pb) = some (iR (nI t) 600) := by
    rw [fm_val (by decide)]; exact congrArg some (md_iR (d := 600) (by omega) (by decide) (by decide))
  have vw : F_X11_within (iR (nI t) 600) 100 219 c L (GRf pb) = _ := inC_val
  generalize hv : inV (iR (nI t) 600) 100 219 = vis at vw
  have key := loop2 (f := fun k i I => LF_X2_sendAll_18 N k 10 (nI t) (b2i vis) (nI i) I L (GRf pb)) (g := fun k i I => LF_X12_downlink_2 N k 24 (nI i) I L (GRf pb)) (R := fun i a b => RC n cd pb L t s0 B (D + 41 * i) a b) (Q := RC n cd pb L t s0 B (D + 820)) n ?_ ?_ n 0 N N c m (by omega) (by omega) (by omega) h
  · obtain ⟨a, b, e1, e2, hr⟩ := key
    have e1 : LF_X2_sendAll_18 N N 10 (nI t) (b2i vis) 0 c L (GRf pb) = some a := e1
    have e2 : LF_X12_downlink_2 N N 24 0 m L (GRf pb) = some b := e2
    refine ⟨a, b, ?_, ?_, hr⟩
    · simp only [F_X2_sendAll, ck_10, if_true, fm, b1e, vw, wre, e1]
    · simp only [F_X12_downlink, ck_24, if_true, e2, b1e]
  · intro k l a b h
    refine ⟨a, b, ?_, ?_, h.monoD (by omega) hD⟩ <;> simp only [LF_X2_sendAll_18, LF_X12_downlink_2, rf_10_0, bse, h.size, b1e, h.nm, nle h.n20, if_true]
  · intro k l i a b hi h
    have hu := h.lt20 hi
    have hu' : i ≤ 20 := by omega
    have hk : RC n cd pb L t s0 B (D + 41 * (i + 1)) a b := h.monoD (by omega) (by omega)
    have on20 : F_X9_isOn (U i) 20 a L (GRf pb) = _ := h.on (l := 20) hi (by decide) (by decide)
    have is21 : F_X9_is (U i) 21 a L (GRf pb) = _ := h.is (l := 21) hi (by decide)
    have ia20 : F_X12_isA N 24 (nI i) 20 b L (GRf pb) = _ := h.isA (l := 20) (by omega) hi (by decide)
    have ia21 : F_X12_isA N 24 (nI i) 21 b L (GRf pb) = _ := h.isA (l := 21) (by omega) hi (by decide)
    have onm := h.onM (show 6 ≤ N by omega) hi
    have p31 := h.pt (k := 31) hi (by decide) (by decide) (by decide) (by decide) (by decide)
    cases e20 : isL (cd i) 20 with
    | false =>
      refine ⟨_, _, ?_, ?_, hk⟩ <;> simp only [LF_X2_sendAll_18, LF_X12_downlink_2, rf_10_0, bse, b1e, wre, nI_1, h.size, h.nm, nlt hi h.n20, if_false, if_true, h.at hi, ck_U hu', b2f, on20, ia20, e20, Bool.false_and]
    | true =>
      rw [i20 _ (h.cd29 hi) e20, Bool.true_and] at onm
      cases e22 : decide (b 37 (65 * i + 22) = 1) with
      | false =>
        refine ⟨_, _, ?_, ?_, hk⟩ <;> simp only [LF_X2_sendAll_18, LF_X12_downlink_2, rf_10_0, bse, b1e, wre, nI_1, h.size, h.nm, nlt hi h.n20, if_false, if_true, h.at hi, ck_U hu', b2f, b2t, on20, ia20, e20, Bool.true_and, onm, e22]
      | true =>
        -- the beacon's byte
        have beac : ∃ a1 b1, (bn1 (if b2i (isL (cd i) 21) = 0 then some a else
              (rf (GRf pb) (U i) 0 20).bind fun a25 =>
              (ri a a25 (31 : Int32)).bind fun v26 =>
              bn1 (F_X11_isMultiple (nI t) v26 a L (GRf pb)) fun b27 =>
              bn1 (
                if (b2i b27) = 0 then
                  some a
                else
                  (rf (GRf pb) 10 3 1).bind fun a33 =>
                  bn1 (F_X1_send a33 ((48 : Int32) + (a 10 7)) a L (GRf pb)) fun I34 =>
                  (ri I34 a25 (51 : Int32)).bind fun v36 =>
                  (wi I34 a25 (51 : Int32) (v36 + (1 : Int32))).bind fun I37 =>
                  some (I37)
              ) fun (I29 : MI) =>
              some (I29)) fun z => some z) = some a1 ∧ (bn1 (if b2i (isL (cd i) 21) = 0 then some b else
                  bn1 (F_X12_get 24 (nI i) (31 : Int32) b L (GRf pb)) fun v20 =>
                  if v20 = 0 then none else
                  bn1 (
                    if (iR (b 24 34) v20) = 0 then
                      bn1 (F_X12_goesDown 24 (nI i) ((48 : Int32) + (b 24 35)) b L (GRf pb)) fun I27 =>
                      some (I27)
                    else
                      some b
                  ) fun (I23 : MI) =>
                  some (I23)) fun z => some z) = some b1 ∧ RC n cd pb L t s0 B (D + 41 * i + 1) a1 b1 := by
          have hk1 : RC n cd pb L t s0 B (D + 41 * i + 1) a b := h.monoD (by omega) (by omega)
          cases e21 : isL (cd i) 21 with
          | false =>
            refine ⟨a, b, ?_, ?_, hk1⟩ <;> simp only [b2f, if_true, b1e]
          | true =>
            obtain ⟨kb, k1, k2, k3⟩ := (h.si hi).2.2.2.2.2.2.2.2.2.1 (Or.inr (i21 _ (h.cd29 hi) e21))
            have k3 : b 37 (65 * i + 31) = nI kb := k3
            have zb : (nI kb = 0) = False := eq_false (nI_ne0 (by omega) (by omega))
            have mul := isMul_val (t := t) (k := kb) (by omega) (by omega) (by omega) (I := a) (L := L) (R := GRf pb)
            have ir : (iR (nI t) (nI kb) = 0) = (t % kb = 0) := propext (iR_zero (t := t) (k := kb) (by omega) (by omega) (by omega))
            by_cases q : t % kb = 0
            · obtain ⟨dd, d1, d2, d3⟩ := h.dn
              have c1 : a 18 1 = nI dd := (h.sc (o := 18) (p := 1) (b := 43) (by decide)).trans d3
              have mo : a 10 7 = b 24 35 := h.sc (o := 10) (p := 7) (b := 35) (by decide)
              have hs := h.sent (x := 48 + b 24 35) d3 d1 (by omega) rfl rfl
              have p51 := hs.pt (k := 51) hi (by decide) (by decide) (by decide) (by decide) (by decide)
              rw [uI_at (show ¬ (37 = 24 ∧ _) by omega), uI_at (show ¬ (37 = 46 ∧ _) by omega)] at p51
              have hr := hs.part (k := 51) (v := b 37 (65 * i + 51) + 1) hi (by unfold dynP; omega) (by omega) (by omega) rfl
              have sC := send1C (pb := pb) (L := L) (x := 48 + b 24 35) c1 (by omega)
              have gM := goesM (pb := pb) (L := L) (x := 48 + b 24 35) hu d3 (by omega)
              refine ⟨_, _, ?_, ?_, hr⟩
              · simp only [b2t, if_false, if_true, rf_U0 hu', bse, rp_31 hu', p31, k3, mul, decide_eq_true q, b1e, rf_10_3, mo, sC, rp_51 hu', p51, wp_51 hu']
              · simp only [b2t, if_false, if_true, gt_31 hu, k3, zb, b1e, h.tick, ir, if_pos q, gM]
            · refine ⟨a, b, ?_, ?_, hk1⟩
              · simp only [b2t, b2f, if_false, if_true, rf_U0 hu', bse, rp_31 hu', p31, k3, mul, decide_eq_false q, b1e]
              · simp only [b2t, if_false, if_true, gt_31 hu, k3, zb, b1e, h.tick, ir, if_neg q]
        obtain ⟨a1, b1, be1, be2, h1⟩ := beac
        have bind1 : ∀ {α β : Type} {x : Option α} {y : α} (g : α → Option β), (bn1 x fun z => some z) = some y → bn1 x g = g y := by
          intro α β x y g hx
          cases x with
          | none => cases hx
          | some z => have := Option.some.inj hx; rw [this]; rfl
        have iv : F_X12_inView 24 b1 L (GRf pb) = some vis := by
          have z : F_X12_in (iR (nI t) 600) 100 219 b1 L (GRf pb) = _ := inM_val
          rw [hv] at z
          simp only [F_X12_inView, ck_24, if_true, h1.tick, z, b1e]
        cases vis with
        | false =>
          refine ⟨a1, b1, ?_, ?_, h1.monoD (by omega) (by omega)⟩
          · simp only [LF_X2_sendAll_18, rf_10_0, bse, h.size, b1e, nlt hi h.n20, if_false, if_true, h.at hi, ck_U hu', b2t, on20, e20, e22, Bool.true_and, is21]
            rw [bind1 _ be1]
            simp only [b2f, if_true, b1e, wre, nI_1]
          · simp only [LF_X12_downlink_2, h.nm, b1e, nlt hi h.n20, if_false, if_true, b2t, ia20, e20, onm, e22, ia21]
            rw [bind1 _ be2]
            simp only [iv, b1e, b2f, if_true, wre, nI_1]
        | true =>
          obtain ⟨R, R1, R2⟩ := (h1.si hi).2.2.2.2.2.2.2.1
          have R2 : b1 37 (65 * i + 50) = nI R := R2
          have p50 := h1.pt (k := 50) hi (by decide) (by decide) (by decide) (by decide) (by decide)
          have p51 := h1.pt (k := 51) hi (by decide) (by decide) (by decide) (by decide) (by decide)
          have h1' : RC n cd pb L t s0 B (D + 41 * i + 1 + 0) a1 (uI b1 37 (65 * i + 51) (b1 37 (65 * i + 51))) := by rw [uI_id]; exact h1
          have fk := first_ok hN h1'
          obtain ⟨s', a2, b2, y1, y2, y3, h2, y5⟩ := kept_ok (cd := cd) (w := i) (R := R) hN hu R1 (by omega) n 0 N N 0 a1 b1 (by omega) (by omega) (by omega) (by omega) (Or.inr (fun j hj => by omega)) h1' (by rw [show nI 0 = 0 from rfl, Int32.add_zero])
          have y1 : LF_X2_sendKept_4 N N 10 (nI R) 0 0 a1 L (GRf pb) = some (nI s', a2) := y1
          rw [Nat.sub_zero] at y2
          have h3 := h2.part (k := 51) (v := b1 37 (65 * i + 51) + nI s') hi (by unfold dynP; omega) (by omega) (by omega) rfl
          rw [uI_two, ← y5, uI_id] at h3
          refine ⟨_, _, ?_, ?_, h3.monoD (by omega) (by omega)⟩
          · simp only [LF_X2_sendAll_18, rf_10_0, bse, h.size, b1e, nlt hi h.n20, if_false, if_true, h.at hi, ck_U hu', b2t, on20, e20, e22, Bool.true_and, is21]
            rw [bind1 _ be1]
            simp only [b2t, if_false, b1e, b2e, wre, nI_1, rf_U0 hu', bse, rp_51 hu', rp_50 hu', p51, p50, R2, F_X2_sendKept, ck_10, if_true, y1, wp_51 hu', y5]
          · simp only [LF_X12_downlink_2, h.nm, b1e, nlt hi h.n20, if_false, if_true, b2t, ia20, e20, onm, e22, ia21]
            rw [bind1 _ be2]
            simp only [iv, b1e, b2t, if_false, wre, nI_1, F_X12_send, ck_24, if_true, gt_50 hu, R2, fk, y2]
end P8
