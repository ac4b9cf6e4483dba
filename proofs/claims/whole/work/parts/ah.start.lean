theorem kl_L_8 : Cond.classLink "SmallCraftLaw" 8 "SmallCraft" ∈ gW := gW_in _ (tb_1 _ (List.mem_of_getElem? (i := 27) rfl)) rfl
theorem kl_L_48 : Cond.classLink "SmallCraftLaw" 48 "SmallCraftModel" ∈ gW := gW_in _ (tb_7 _ (List.mem_of_getElem? (i := 61) rfl)) rfl
theorem ki_X11 : Cond.instantiable "SmallCraft" 5 ∈ gW := gW_in _ (tb_1 _ (List.mem_of_getElem? (i := 28) rfl)) rfl
theorem kn_X11 : Cond.initialized "SmallCraft" ∈ gW := gW_in _ (tb_1 _ (List.mem_of_getElem? (i := 1) rfl)) rfl
theorem ki_X12 : Cond.instantiable "SmallCraftModel" 64 ∈ gW := gW_in _ (tb_7 _ (List.mem_of_getElem? (i := 62) rfl)) rfl
theorem kn_X12 : Cond.initialized "SmallCraftModel" ∈ gW := gW_in _ (tb_1 _ (List.mem_of_getElem? (i := 12) rfl)) rfl
theorem lI_L_47 : LkI RL 47 yX11_init := ⟨Or.inl (gW_in _ (tb_1 _ (List.mem_of_getElem? (i := 29) rfl)) rfl), gW_in _ (tb_1 _ (List.mem_of_getElem? (i := 30) rfl)) rfl⟩
theorem lc_X11_init : LkC yX11_init cX11_init 2 none 0 := ⟨gW_in _ (tb_1 _ (List.mem_of_getElem? (i := 31) rfl)) rfl, gW_in _ (tb_1 _ (List.mem_of_getElem? (i := 1) rfl)) rfl, by decide +kernel⟩
theorem lI_L_50 : LkI RL 50 yX12_init := ⟨Or.inl (gW_in _ (tb_7 _ (List.mem_of_getElem? (i := 63) rfl)) rfl), gW_in _ (tb_7 _ (List.mem_of_getElem? (i := 64) rfl)) rfl⟩
theorem lc_X12_init : LkC yX12_init cX12_init 1 none 0 := ⟨gW_in _ (tb_7 _ (List.mem_of_getElem? (i := 65) rfl)) rfl, gW_in _ (tb_1 _ (List.mem_of_getElem? (i := 12) rfl)) rfl, by decide +kernel⟩
theorem VK_istore {G : Gm} {f : State → Prop} {own : String} {cc : ByteArray} {rt : Option FieldType} {pc : Nat} {lv : List (Nat × Value)} {st : List Value} {k9 c9 s9 : Nat} {E : Nat → va_E} (C0 : Cx G own cc rt) {i : Nat} {x : Int32} (lv' : List (Nat × Value)) (hn : i < G.nL) (hl' : (i, Value.int x) :: lv.filter (fun q => !(q.1 == i) && !(q.1 + 1 == i && q.2.category == 2)) = lv') (hd : decode cc pc = .ok (.istore i, 2)) (k : VK G f k9 c9 s9 (pc + 2) lv' st E) : VK G f k9 c9 s9 pc lv (Value.int x :: st) E :=
  fun H locs ls hP hS hz hl => lv_istore C0.1 C0.2.1 hd hl hn hl' (fun ls hl => k H locs ls hP hS hz hl)
theorem instOk {ci : Nat} {q : vw_C} (h : vwCl[ci]? = some q) : Cond.instantiable q.1 q.2.2 ∈ gW := by
  match ci, h with
  | 0, h => cases h; exact gW_in _ (tb_1 _ (List.mem_of_getElem? (i := 157) rfl)) rfl
  | 1, h => cases h; exact gW_in _ (tb_1 _ (List.mem_of_getElem? (i := 227) rfl)) rfl
  | 2, h => cases h; exact gW_in _ (tb_1 _ (List.mem_of_getElem? (i := 177) rfl)) rfl
  | 3, h => cases h; exact gW_in _ (tb_2 _ (List.mem_of_getElem? (i := 7) rfl)) rfl
  | 4, h => cases h; exact gW_in _ (tb_2 _ (List.mem_of_getElem? (i := 0) rfl)) rfl
  | 5, h => cases h; exact gW_in _ (tb_1 _ (List.mem_of_getElem? (i := 202) rfl)) rfl
  | 6, h => cases h; exact gW_in _ (tb_1 _ (List.mem_of_getElem? (i := 183) rfl)) rfl
  | 7, h => cases h; exact gW_in _ (tb_1 _ (List.mem_of_getElem? (i := 120) rfl)) rfl
  | 8, h => cases h; exact gW_in _ (tb_1 _ (List.mem_of_getElem? (i := 43) rfl)) rfl
  | 9, h => cases h; exact gW_in _ (tb_1 _ (List.mem_of_getElem? (i := 36) rfl)) rfl
  | 10, h => cases h; exact gW_in _ (tb_1 _ (List.mem_of_getElem? (i := 28) rfl)) rfl
  | 11, h => cases h; exact gW_in _ (tb_7 _ (List.mem_of_getElem? (i := 62) rfl)) rfl
  | n + 12, h => simp [vwCl] at h
theorem K_at {A : Array Value} {s : State} (hts : ∀ w ∈ lw_tbl, w.before A s = true) : ∃ (D : va_G) (cA : Nat → ClassId), va_K D vwCl (tyA cA) s := by
  have htg : ∀ w ∈ gW, w.before A s = true := fun w hw => hts w (List.mem_filter.mp hw).1
  have hex : ∀ (c : Nat) (q : vw_C), vwCl[c]? = some q → ∃ p : ClassId × (Nat → Nat), u_Kn s q.1 q.2.1 q.2.2 p.1 p.2 := fun c q hq => by
    obtain ⟨cC, iS, h⟩ := u_known htg (clOk hq).1 (htg _ (instOk hq))
    exact ⟨(cC, iS), h⟩
  have hall : ∀ c : Nat, ∃ p : ClassId × (Nat → Nat), ∀ q : vw_C, vwCl[c]? = some q → u_Kn s q.1 q.2.1 q.2.2 p.1 p.2 := fun c => by
    cases hq : vwCl[c]? with
    | none =>
      obtain ⟨p, -⟩ := hex 0 _ rfl
      exact ⟨p, fun q h => by cases h⟩
    | some q0 =>
      obtain ⟨p, hp⟩ := hex c q0 hq
      exact ⟨p, fun q h => by cases h; exact hp⟩
  obtain ⟨DD, hD⟩ := Classical.axiomOfChoice hall
  obtain ⟨cI, kI, mI, i1, i2, i3⟩ := Cond.arrayClass_spec (hts _ (tb_1 _ (List.mem_of_getElem? (i := 90) rfl)))
  obtain ⟨cL, kL, mL, l1, l2, l3⟩ := Cond.arrayClass_spec (hts _ (tb_1 _ (List.mem_of_getElem? (i := 175) rfl)))
  obtain ⟨cZ, kZ, mZ, z1, z2, z3⟩ := Cond.arrayClass_spec (hts _ (tb_8 _ (List.mem_of_getElem? (i := 21) rfl)))
  obtain ⟨mU, cU, kU, u1, -, u2, u3, u4⟩ := Cond.arrayOver_spec (hts _ (tb_1 _ (List.mem_of_getElem? (i := 42) rfl)))
  obtain ⟨mT, cT, kT9, t1, -, t2, t3, t4⟩ := Cond.arrayOver_spec (hts _ (tb_2 _ (List.mem_of_getElem? (i := 6) rfl)))
  refine ⟨(fun c => (DD c).1, fun c => (DD c).2), fun k => if k = 0 then cI else if k = 1 then cL else if k = 2 then cZ else if k = 3 then cU else cT, fun c q hq => hD c q hq, fun k q hk => ?_⟩
  match k, hk with
  | 0, hk => cases hk; exact ⟨fun n z => ⟨fun k h => (by cases h), kI, i2, mI, i3⟩, i1⟩
  | 1, hk => cases hk; exact ⟨fun n z => ⟨fun k h => (by cases h), kL, l2, mL, l3⟩, l1⟩
  | 2, hk => cases hk; exact ⟨fun n z => ⟨fun k h => (by cases h), kZ, z2, mZ, z3⟩, z1⟩
  | 3, hk => cases hk; exact ⟨fun n z => ⟨fun k h => (by cases h), kU, u2, mU, u3⟩, kU, mU, u2, u3, u1, u4⟩
  | 4, hk => cases hk; exact ⟨fun n z => ⟨fun k h => (by cases h), kT9, t2, mT, t3⟩, kT9, mT, t2, t3, t1, t4⟩
  | n + 5, hk => simp [tyA] at hk
theorem VK_all {G : Gm} {f : State → Prop} {c9 s9 pc : Nat} {lv : List (Nat × Value)} {st : List Value} {sa : Nat → Nat} {E : Nat → va_E} (hA : G.ad = adF G.bs sa) (h : VH G f c9 s9 pc lv st I0 L0 (GRf 0)) : VK G f 204 c9 s9 pc lv st (EF G.cA G.bs E) := by
  intro H locs ls hP hS hz hl
  refine h H locs ls ?_ hS hl
  rw [hA]
  exact world_all hP
set_option maxRecDepth 100000 in
set_option maxHeartbeats 4000000 in
theorem law_start {f : State → Prop} {b Ls : Nat} {xs : Nat → Int32} {G : Gm} {sa : Nat → Nat} (C1 : Cx G RL cL_law (some .boolean)) (hE : Ef f G) (eNL : G.nL = 7) (erm : G.rm = room_1) (hst : G.l.stackTraces = false) (hA : G.ad = adF G.bs sa) (hz : G.s.heap.size = G.bs) (hX : G.X = XX G.ad G.bs b Ls xs) (hb : b < G.bs) (hL : Ls ≤ 3072) (E : Nat → va_E) : VK G f 0 0 0 0 [(0, .ref b)] [] E := by
  have hAd := C1.2.2.2.2.2.2.2.2.2.1
  have hXb := C1.2.2.2.2.2.2.2.2.2.2.2.2
  have hao : Ssd G.X := by rw [hX]; exact fun U h => h.2.2.2.1
  refine VK_new C1 10 _ _ 5 rfl kl_L_8 ki_X11 kn_X11 (by rw [erm]; decide) (by rw [erm]; decide) dL_law_0 (VK_dup C1 rfl dL_law_3 ?_)
  refine VK_callI C1 (st := [.ref (G.bs + 0)]) (As := []) (k_X11_init G.l G.D G.cA G.ad G.bs G.X hAd hXb hao 1 0 _ (by decide) upE_at) lc_X11_init lI_L_47 rfl rfl (by rw [erm]; decide) (by rw [erm]; decide) (Nat.le_of_ble_eq_true rfl) dL_law_4 ?_
  refine VK_astore_n C1 [(1, .ref (G.bs + 0)), (0, .ref b)] rfl (by rw [eNL]; decide) rfl dL_law_7 ?_
  refine VK_new C1 11 _ _ 64 rfl kl_L_48 ki_X12 kn_X12 (by rw [erm]; decide) (by rw [erm]; decide) dL_law_8 (VK_dup C1 rfl dL_law_11 ?_)
  refine VK_callI C1 (st := [.ref (G.bs + 170)]) (As := []) (k_X12_init G.l G.D G.cA G.ad G.bs G.X hAd hXb 171 170 _ (by decide) upE_at) lc_X12_init lI_L_50 rfl rfl (by rw [erm]; decide) (by rw [erm]; decide) (Nat.le_of_ble_eq_true rfl) dL_law_12 ?_
  refine VK_astore_n C1 [(2, .ref (G.bs + 170)), (1, .ref (G.bs + 0)), (0, .ref b)] rfl (by rw [eNL]; decide) rfl dL_law_15 ?_
  refine VK_iconst C1 (v := (1 : Int32)) (by decide) dL_law_16 (VK_newL C1 1 (by decide) (by decide) (by decide) (by rw [erm]; decide) (by rw [erm]; decide) dL_law_17 ?_)
  refine VK_astore_n C1 [(3, .ref (G.bs + 203)), (2, .ref (G.bs + 170)), (1, .ref (G.bs + 0)), (0, .ref b)] rfl (by rw [eNL]; decide) rfl dL_law_19 ?_
  refine VK_iconst C1 (v := (0 : Int32)) (by decide) dL_law_20 (VK_istore C1 [(4, .int 0), (3, .ref (G.bs + 203)), (2, .ref (G.bs + 170)), (1, .ref (G.bs + 0)), (0, .ref b)] (by rw [eNL]; decide) rfl dL_law_21 ?_)
  refine VK_all (sa := sa) hA ?_
  have e0 : G.ad 0 = G.bs + 0 := by rw [hA]; rfl
  have e24 : G.ad 24 = G.bs + 170 := by rw [hA]; rfl
  have e57 : G.ad 57 = G.bs + 203 := by rw [hA]; rfl
  rw [← e0, ← e24, ← e57]
  refine VH_re C1 hE (by rw [erm]; decide) (by rw [erm]; decide) (fun s' C2 hE2 => ?_)
  exact law_loop 512 (reB G s' _ _) 0 0 (fun _ => 0) 0 0 0 0 0 I0 L0 ⟨C2, hE2, eNL, ⟨by show G.rm.frames = 14; rw [erm]; rfl, by show G.rm.locals = 534; rw [erm]; rfl, by show 512 ≤ G.rm.cells - _; rw [erm]; decide, by show 6 * 512 ≤ G.rm.slots - _; rw [erm]; decide⟩, hst, by show Ssx G.ad G.bs G.X; rw [hX]; exact fun U h => h.1, by show Ssb G.ad G.bs G.X; rw [hX]; exact fun U h => h.2.1, by show Ssc G.bs G.X; rw [hX]; exact fun U h => h.2.2.1, by show Sse G.X; rw [hX]; exact fun U h => h.2.2.2.2.1, by show Ssq b Ls xs G.X; rw [hX]; exact fun U h => h.2.2.2.2.2, hb, hL⟩ (by decide) (by omega) RC_start DN_start (by decide) (by decide) (by decide)
