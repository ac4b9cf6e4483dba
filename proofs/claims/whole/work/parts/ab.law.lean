/-! The law's frame: it starts anew behind every call that may have made a cell -/
def reB (G : Gm) (s' : State) (c9 s9 : Nat) : Gm := (G.p, G.l, G.e, ({ frames := G.rm.frames, locals := G.rm.locals, cells := G.rm.cells - c9, slots := G.rm.slots - s9 } : Room), s', G.m, G.args, G.below, G.meth, G.c, G.D, G.cA, G.ad, G.bs, G.X, G.nL)
def Ef (f : State → Prop) (G : Gm) : Prop := ∀ (t : State) (L : List Loc), t.status = .running → Ended t G.below (.returned (some (.int 1))) → G.s.WarmedH t.vm → G.s.sameButNew ({ t with vm := G.s.vm } : State) L G.rm.cells G.rm.slots → (∀ q ∈ L, Ab G.bs q.base) → f t
theorem VH_re {G : Gm} {f : State → Prop} {own : String} {cc : ByteArray} {rt : Option FieldType} {c9 s9 pc : Nat} {lv : List (Nat × Value)} {st : List Value} {I : MI} {L : ML} {R : MR} (C0 : Cx G own cc rt) (hE : Ef f G) (hc : c9 ≤ G.rm.cells) (hs : s9 ≤ G.rm.slots)
    (k : ∀ s', Cx (reB G s' c9 s9) own cc rt → Ef f (reB G s' c9 s9) → V (reB G s' c9 s9) f pc lv st I L R) : VH G f c9 s9 pc lv st I L R := by
  intro H locs ls hP hS hl T hT X
  have Y := vx_rebase X (R' := { frames := G.rm.frames, locals := G.rm.locals, cells := G.rm.cells - c9, slots := G.rm.slots - s9 }) (Nat.le_refl _) (Nat.le_refl _) (by show c9 + (G.rm.cells - c9) ≤ _; omega) (by show s9 + (G.rm.slots - s9) ≤ _; omega)
  obtain ⟨s', hA⟩ : ∃ z, z = (T.setVm G.s.vm).setFrames (.invoking G.m G.args :: G.below) := ⟨_, rfl⟩
  rw [← hA] at Y
  have hvm : s'.vm = G.s.vm := by rw [hA]; rfl
  have hhp : s'.heap = H := by rw [hA]; exact hT
  have hW0 : G.s.WarmedH s'.vm := by rw [hvm]; exact State.WarmedH.refl G.s
  obtain ⟨hx, hb, hml, hrt, hlk, hown, hts, hK, hN, hAd, hbs, hXs, hXb⟩ := C0
  have C1 : Cx (reB G s' c9 s9) own cc rt := ⟨hx, hb, hml, hrt, hlk, by show s'.vm.findClass own = _; rw [hvm]; exact hown, fun w hw => word_at hW0 (good_of_word (List.mem_filter.mp hw).2) (hts w hw), va_K.moved hW0.alike hK, nW_same hvm.symm hN, hAd, by
      show G.bs ≤ s'.heap.size
      rw [hhp]
      exact Nat.le_trans hbs hS.1, hXb G.s s' hXs hW0 (by rw [hhp]; exact hS.1) (fun q h1 h2 => by rw [hhp]; exact hS.2.1 q h1 h2), hXb⟩
  have hE1 : Ef f (reB G s' c9 s9) := by
    intro t L1 h1 h2 h3 h4 h5
    refine hE t (locs ++ L1) h1 h2 (State.WarmedH.trans hW0 h3) ?_ ?_
    · have h4' : s'.sameButNew ({ t with vm := s'.vm } : State) L1 (G.rm.cells - c9) (G.rm.slots - s9) := h4
      rw [hvm] at h4'
      subst hA
      obtain ⟨e1, e2⟩ := h4'
      rw [State.setFrames_setFrames] at e1
      have h9 : (T.setVm G.s.vm).sameButNew ({ t with vm := G.s.vm } : State) L1 (G.rm.cells - c9) (G.rm.slots - s9) := ⟨e1, e2⟩
      exact (X.same.trans h9).mono (by omega) (by omega)
    · intro q hq
      rcases List.mem_append.mp hq with h | h
      · exact hS.2.2 q h
      · exact h5 q h
  exact k s' C1 hE1 H [] ls hP ⟨by show s'.heap.size ≤ _; rw [hhp]; exact Nat.le_refl _, fun q _ _ => by show H[q]? = s'.heap[q]?; rw [hhp], fun q hq => nomatch hq⟩ hl T hT Y
theorem V_done {G : Gm} {f : State → Prop} {own : String} {cc : ByteArray} {pc : Nat} {lv : List (Nat × Value)} {I : MI} {L : ML} {R : MR} (C0 : Cx G own cc (some .boolean)) (hE : Ef f G) (hd : decode cc pc = .ok (.ireturn, 1)) : V G f pc lv [.int 1] I L R := by
  intro H locs ls hP hS hl T hT X
  obtain ⟨t, a1, o, b1, b2, b3, L1, b4, b5⟩ := V_zret C0 (x := 1) (Or.inr rfl) hd H locs ls hP hS hl T hT X
  obtain ⟨hv, -⟩ := b3
  subst hv
  have hsm : G.s.sameButNew ({ t with vm := G.s.vm } : State) L1 0 0 := b4.2.2
  exact ⟨t, a1, hE t L1 b1 b2 b4.2.1 (hsm.mono (Nat.zero_le _) (Nat.zero_le _)) b5⟩
theorem V_sld {G : Gm} {f : State → Prop} {own : String} {cc : ByteArray} {rt : Option FieldType} {pc : Nat} {lv : List (Nat × Value)} {st : List Value} {I : MI} {L : ML} {R : MR} (C0 : Cx G own cc rt) {b Ls : Nat} {xs : Nat → Int32} (hX : va_X b Ls xs G.s G.s.heap) (hbl : b < G.s.heap.size) (hbA : ¬ Ab G.bs b) {i : Int32} (hin : vp_in i Ls) (hd : decode cc pc = .ok (.iaload, 1)) (k : V G f (pc + 1) lv (.int (xs i.toNatClampNeg) :: st) I L R) : V G f pc lv (.int i :: .ref b :: st) I L R :=
  fun H locs ls hP hS hl => va_sld C0.1 C0.2.1 hX hbl hbA hS hin hd (k H locs ls hP hS hl)
theorem V_slen {G : Gm} {f : State → Prop} {own : String} {cc : ByteArray} {rt : Option FieldType} {pc : Nat} {lv : List (Nat × Value)} {st : List Value} {I : MI} {L : ML} {R : MR} (C0 : Cx G own cc rt) {b Ls : Nat} {xs : Nat → Int32} (hX : va_X b Ls xs G.s G.s.heap) (hbl : b < G.s.heap.size) (hbA : ¬ Ab G.bs b) (hd : decode cc pc = .ok (.arraylength, 1)) (k : V G f (pc + 1) lv (.int (Int32.ofNat Ls) :: st) I L R) : V G f pc lv (.ref b :: st) I L R :=
  fun H locs ls hP hS hl => va_slen C0.1 C0.2.1 hX hbl hbA hS hd (k H locs ls hP hS hl)
def Ssq (b Ls : Nat) (xs : Nat → Int32) (X : State → Prop) : Prop := ∀ U, X U → va_X b Ls xs U U.heap ∧ b < U.heap.size
/-- what the law's walk carries: k more throws have room -/
def LG (f : State → Prop) (b Ls : Nat) (xs : Nat → Int32) (G : Gm) (k : Nat) : Prop := Cx G RL cL_law (some .boolean) ∧ Ef f G ∧ G.nL = 7 ∧ (G.rm.frames = 14 ∧ G.rm.locals = 534 ∧ k ≤ G.rm.cells ∧ 6 * k ≤ G.rm.slots) ∧ G.l.stackTraces = false ∧ Ssx G.ad G.bs G.X ∧ Ssb G.ad G.bs G.X ∧ Ssc G.bs G.X ∧ Sse G.X ∧ Ssq b Ls xs G.X ∧ b < G.bs ∧ Ls ≤ 3072
theorem LG.re {f : State → Prop} {b Ls : Nat} {xs : Nat → Int32} {G : Gm} {k c9 s9 : Nat} {s' : State} (h : LG f b Ls xs G (k + 1)) (hc : c9 ≤ 1) (hs : s9 ≤ 6) (C1 : Cx (reB G s' c9 s9) RL cL_law (some .boolean)) (hE : Ef f (reB G s' c9 s9)) : LG f b Ls xs (reB G s' c9 s9) k := by
  obtain ⟨-, -, h3, ⟨h4, h5, h6, h7⟩, h8⟩ := h
  exact ⟨C1, hE, h3, ⟨h4, h5, by show k ≤ G.rm.cells - c9; omega, by show 6 * k ≤ G.rm.slots - s9; omega⟩, h8⟩
theorem LG.less {f : State → Prop} {b Ls : Nat} {xs : Nat → Int32} {G : Gm} {k : Nat} (h : LG f b Ls xs G (k + 1)) : LG f b Ls xs G k := by
  obtain ⟨h1, h2, h3, ⟨h4, h5, h6, h7⟩, h8⟩ := h
  exact ⟨h1, h2, h3, ⟨h4, h5, by omega, by omega⟩, h8⟩
def lvL (G : Gm) (b j : Nat) : List (Nat × Value) := [(4, .int (Int32.ofNat (6 * j))), (3, .ref (G.ad 57)), (2, .ref (G.ad 24)), (1, .ref (G.ad 0)), (0, .ref b)]
theorem LG.room {f : State → Prop} {b Ls : Nat} {xs : Nat → Int32} {G : Gm} {k fr n : Nat} (h : LG f b Ls xs G k) (h1 : fr + 1 ≤ 14) (h2 : n ≤ 534) : fr + 1 ≤ G.rm.frames ∧ n ≤ G.rm.locals := by
  obtain ⟨-, -, -, ⟨h4, h5, -, -⟩, -⟩ := h
  rw [h4, h5]
  exact ⟨h1, h2⟩
theorem LG.C0 {f : State → Prop} {b Ls : Nat} {xs : Nat → Int32} {G : Gm} {k : Nat} (h : LG f b Ls xs G k) : Cx G RL cL_law (some .boolean) := h.1
theorem LG.sc {f : State → Prop} {b Ls : Nat} {xs : Nat → Int32} {G : Gm} {k : Nat} (h : LG f b Ls xs G k) : va_X b Ls xs G.s G.s.heap ∧ b < G.s.heap.size ∧ ¬ Ab G.bs b := by
  have hq := h.2.2.2.2.2.2.2.2.2.1 _ h.1.2.2.2.2.2.2.2.2.2.2.2.1
  exact ⟨hq.1, hq.2, by
    have := h.2.2.2.2.2.2.2.2.2.2.1
    unfold Ab
    omega⟩
theorem LG.ls {f : State → Prop} {b Ls : Nat} {xs : Nat → Int32} {G : Gm} {k : Nat} (h : LG f b Ls xs G k) : Ls ≤ 3072 := h.2.2.2.2.2.2.2.2.2.2.2
theorem i_add6 (j k : Nat) : Int32.ofNat (6 * j) + Int32.ofNat k = Int32.ofNat (6 * j + k) := (Int32.ofNat_add (6 * j) k).symm
/-- script[i + k] -/
theorem V_arg {G : Gm} {f : State → Prop} {b Ls : Nat} {xs : Nat → Int32} {r : Nat} (hL : LG f b Ls xs G r) {pc p1 p2 p3 p4 p5 : Nat} {lv : List (Nat × Value)} {st : List Value} {I : MI} {L : ML} {R : MR} {j : Nat} (hj : 6 * j + 6 ≤ Ls) (k q0 q4 : Nat) (hk : k < 6) (h0 : lv[q0]? = some (0, .ref b)) (h4 : lv[q4]? = some (4, .int (Int32.ofNat (6 * j)))) {n : Int} (hv : Int32.ofInt n = Int32.ofNat k)
    (e1 : pc + 1 = p1) (e2 : p1 + 2 = p2) (e3 : p2 + 1 = p3) (e4 : p3 + 1 = p4) (e5 : p4 + 1 = p5) (d0 : decode cL_law pc = .ok (.aload_n 0, 1)) (d1 : decode cL_law p1 = .ok (.iload 4, 2)) (d2 : decode cL_law p2 = .ok (.iconst n, 1)) (d3 : decode cL_law p3 = .ok (.iadd, 1)) (d4 : decode cL_law p4 = .ok (.iaload, 1))
    (kk : V G f p5 lv (.int (xs (6 * j + k)) :: st) I L R) : V G f pc lv st I L R := by
  subst e1; subst e2; subst e3; subst e4; subst e5
  have hls := hL.ls
  refine V_aload_n hL.C0 q0 rfl h0 d0 (V_iload hL.C0 q4 h4 d1 (V_iconst hL.C0 hv d2 (V_iadd hL.C0 d3 ?_)))
  rw [i_add6]
  have hi : (Int32.ofNat (6 * j + k)).toNatClampNeg = 6 * j + k := Int32.toNatClampNeg_ofNat_of_lt (by omega)
  refine V_sld hL.C0 hL.sc.1 hL.sc.2.1 hL.sc.2.2 (i_in (by omega) (by omega)) d4 ?_
  rw [hi]
  exact kk
theorem thrown_eq {I : MI} {L : ML} {R : MR} : F_X12_thrown 24 I L R = some (I 24 5) := by
  unfold F_X12_thrown
  rw [if_pos (by decide)]
theorem lk_L_51 : LkV RL 51 yX11_feed := ⟨Or.inl (gW_in _ (tb_2 _ (List.mem_of_getElem? (i := 133) rfl)) rfl), gW_in _ (tb_2 _ (List.mem_of_getElem? (i := 134) rfl)) rfl, gW_in _ (tb_2 _ (List.mem_of_getElem? (i := 135) rfl)) rfl⟩
theorem lc_X11_feed : LkC yX11_feed cX11_feed 6 (some .int) 5 := ⟨gW_in _ (tb_2 _ (List.mem_of_getElem? (i := 136) rfl)) rfl, gW_in _ (tb_1 _ (List.mem_of_getElem? (i := 1) rfl)) rfl, by decide +kernel⟩
theorem lk_L_55 : LkV RL 55 yX12_feed := ⟨Or.inl (gW_in _ (tb_8 _ (List.mem_of_getElem? (i := 26) rfl)) rfl), gW_in _ (tb_8 _ (List.mem_of_getElem? (i := 27) rfl)) rfl, gW_in _ (tb_8 _ (List.mem_of_getElem? (i := 28) rfl)) rfl⟩
theorem lc_X12_feed : LkC yX12_feed cX12_feed 8 (some .int) 5 := ⟨gW_in _ (tb_8 _ (List.mem_of_getElem? (i := 29) rfl)) rfl, gW_in _ (tb_1 _ (List.mem_of_getElem? (i := 12) rfl)) rfl, by decide +kernel⟩
theorem lk_L_61 : LkV RL 61 yX12_load := ⟨Or.inl (gW_in _ (tb_8 _ (List.mem_of_getElem? (i := 30) rfl)) rfl), gW_in _ (tb_8 _ (List.mem_of_getElem? (i := 31) rfl)) rfl, gW_in _ (tb_8 _ (List.mem_of_getElem? (i := 32) rfl)) rfl⟩
theorem lc_X12_load : LkC yX12_load cX12_load 4 (some .int) 1 := ⟨gW_in _ (tb_8 _ (List.mem_of_getElem? (i := 33) rfl)) rfl, gW_in _ (tb_1 _ (List.mem_of_getElem? (i := 12) rfl)) rfl, by decide +kernel⟩
theorem lk_L_62 : LkV RL 62 yX12_thrown := ⟨Or.inl (gW_in _ (tb_8 _ (List.mem_of_getElem? (i := 22) rfl)) rfl), gW_in _ (tb_8 _ (List.mem_of_getElem? (i := 23) rfl)) rfl, gW_in _ (tb_8 _ (List.mem_of_getElem? (i := 24) rfl)) rfl⟩
theorem lc_X12_thrown : LkC yX12_thrown cX12_thrown 1 (some .int) 0 := ⟨gW_in _ (tb_8 _ (List.mem_of_getElem? (i := 25) rfl)) rfl, gW_in _ (tb_1 _ (List.mem_of_getElem? (i := 12) rfl)) rfl, by decide +kernel⟩
theorem lk_L_68 : LkV RL 68 yX12_plan := ⟨Or.inl (gW_in _ (tb_8 _ (List.mem_of_getElem? (i := 203) rfl)) rfl), gW_in _ (tb_8 _ (List.mem_of_getElem? (i := 204) rfl)) rfl, gW_in _ (tb_8 _ (List.mem_of_getElem? (i := 205) rfl)) rfl⟩
theorem lc_X12_plan : LkC yX12_plan cX12_plan 4 (some .int) 1 := ⟨gW_in _ (tb_8 _ (List.mem_of_getElem? (i := 206) rfl)) rfl, gW_in _ (tb_1 _ (List.mem_of_getElem? (i := 12) rfl)) rfl, by decide +kernel⟩
theorem lk_L_69 : LkV RL 69 yX11_fault := ⟨Or.inl (gW_in _ (tb_2 _ (List.mem_of_getElem? (i := 149) rfl)) rfl), gW_in _ (tb_2 _ (List.mem_of_getElem? (i := 150) rfl)) rfl, gW_in _ (tb_2 _ (List.mem_of_getElem? (i := 151) rfl)) rfl⟩
theorem lc_X11_fault : LkC yX11_fault cX11_fault 2 (some .int) 1 := ⟨gW_in _ (tb_2 _ (List.mem_of_getElem? (i := 152) rfl)) rfl, gW_in _ (tb_1 _ (List.mem_of_getElem? (i := 1) rfl)) rfl, by decide +kernel⟩
theorem lk_L_72 : LkV RL 72 yX12_fault := ⟨Or.inl (gW_in _ (tb_8 _ (List.mem_of_getElem? (i := 231) rfl)) rfl), gW_in _ (tb_8 _ (List.mem_of_getElem? (i := 232) rfl)) rfl, gW_in _ (tb_8 _ (List.mem_of_getElem? (i := 233) rfl)) rfl⟩
theorem lc_X12_fault : LkC yX12_fault cX12_fault 2 (some .int) 1 := ⟨gW_in _ (tb_8 _ (List.mem_of_getElem? (i := 234) rfl)) rfl, gW_in _ (tb_1 _ (List.mem_of_getElem? (i := 12) rfl)) rfl, by decide +kernel⟩
theorem lk_L_75 : LkV RL 75 yX12_run := ⟨Or.inl (gW_in _ (tb_8 _ (List.mem_of_getElem? (i := 235) rfl)) rfl), gW_in _ (tb_8 _ (List.mem_of_getElem? (i := 236) rfl)) rfl, gW_in _ (tb_8 _ (List.mem_of_getElem? (i := 237) rfl)) rfl⟩
theorem lc_X12_run : LkC yX12_run cX12_run 3 (some .int) 1 := ⟨gW_in _ (tb_8 _ (List.mem_of_getElem? (i := 238) rfl)) rfl, gW_in _ (tb_1 _ (List.mem_of_getElem? (i := 12) rfl)) rfl, by decide +kernel⟩
theorem lk_L_79 : LkV RL 79 yX12_command := ⟨Or.inl (gW_in _ (tb_9 _ (List.mem_of_getElem? (i := 159) rfl)) rfl), gW_in _ (tb_9 _ (List.mem_of_getElem? (i := 160) rfl)) rfl, gW_in _ (tb_9 _ (List.mem_of_getElem? (i := 161) rfl)) rfl⟩
theorem lc_X12_command : LkC yX12_command cX12_command 4 (some .boolean) 3 := ⟨gW_in _ (tb_9 _ (List.mem_of_getElem? (i := 162) rfl)) rfl, gW_in _ (tb_1 _ (List.mem_of_getElem? (i := 12) rfl)) rfl, by decide +kernel⟩
theorem lk_L_83 : LkV RL 83 yX12_part := ⟨Or.inl (gW_in _ (tb_9 _ (List.mem_of_getElem? (i := 171) rfl)) rfl), gW_in _ (tb_9 _ (List.mem_of_getElem? (i := 172) rfl)) rfl, gW_in _ (tb_9 _ (List.mem_of_getElem? (i := 173) rfl)) rfl⟩
theorem lc_X12_part : LkC yX12_part cX12_part 3 (some .int) 2 := ⟨gW_in _ (tb_9 _ (List.mem_of_getElem? (i := 174) rfl)) rfl, gW_in _ (tb_1 _ (List.mem_of_getElem? (i := 12) rfl)) rfl, by decide +kernel⟩
theorem lk_L_86 : LkV RL 86 yX12_ask := ⟨Or.inl (gW_in _ (tb_9 _ (List.mem_of_getElem? (i := 179) rfl)) rfl), gW_in _ (tb_9 _ (List.mem_of_getElem? (i := 180) rfl)) rfl, gW_in _ (tb_9 _ (List.mem_of_getElem? (i := 181) rfl)) rfl⟩
theorem lc_X12_ask : LkC yX12_ask cX12_ask 4 (some .int) 2 := ⟨gW_in _ (tb_9 _ (List.mem_of_getElem? (i := 182) rfl)) rfl, gW_in _ (tb_1 _ (List.mem_of_getElem? (i := 12) rfl)) rfl, by decide +kernel⟩
theorem lk_L_89 : LkV RL 89 yX12_note := ⟨Or.inl (gW_in _ (tb_9 _ (List.mem_of_getElem? (i := 183) rfl)) rfl), gW_in _ (tb_9 _ (List.mem_of_getElem? (i := 184) rfl)) rfl, gW_in _ (tb_9 _ (List.mem_of_getElem? (i := 185) rfl)) rfl⟩
theorem lc_X12_note : LkC yX12_note cX12_note 3 (some .int) 2 := ⟨gW_in _ (tb_9 _ (List.mem_of_getElem? (i := 186) rfl)) rfl, gW_in _ (tb_1 _ (List.mem_of_getElem? (i := 12) rfl)) rfl, by decide +kernel⟩
theorem lk_L_90 : LkV RL 90 yX11_at := ⟨Or.inl (gW_in _ (tb_2 _ (List.mem_of_getElem? (i := 161) rfl)) rfl), gW_in _ (tb_2 _ (List.mem_of_getElem? (i := 162) rfl)) rfl, gW_in _ (tb_2 _ (List.mem_of_getElem? (i := 163) rfl)) rfl⟩
theorem lc_X11_at : LkC yX11_at cX11_at 2 (some .int) 1 := ⟨gW_in _ (tb_2 _ (List.mem_of_getElem? (i := 164) rfl)) rfl, gW_in _ (tb_1 _ (List.mem_of_getElem? (i := 1) rfl)) rfl, by decide +kernel⟩
theorem lk_L_93 : LkV RL 93 yX12_at := ⟨Or.inl (gW_in _ (tb_9 _ (List.mem_of_getElem? (i := 187) rfl)) rfl), gW_in _ (tb_9 _ (List.mem_of_getElem? (i := 188) rfl)) rfl, gW_in _ (tb_9 _ (List.mem_of_getElem? (i := 189) rfl)) rfl⟩
theorem lc_X12_at : LkC yX12_at cX12_at 6 (some .int) 1 := ⟨gW_in _ (tb_9 _ (List.mem_of_getElem? (i := 190) rfl)) rfl, gW_in _ (tb_1 _ (List.mem_of_getElem? (i := 12) rfl)) rfl, by decide +kernel⟩
theorem lk_L_96 : LkV RL 96 yX12_name := ⟨Or.inl (gW_in _ (tb_9 _ (List.mem_of_getElem? (i := 191) rfl)) rfl), gW_in _ (tb_9 _ (List.mem_of_getElem? (i := 192) rfl)) rfl, gW_in _ (tb_9 _ (List.mem_of_getElem? (i := 193) rfl)) rfl⟩
theorem lc_X12_name : LkC yX12_name cX12_name 3 (some .int) 2 := ⟨gW_in _ (tb_9 _ (List.mem_of_getElem? (i := 194) rfl)) rfl, gW_in _ (tb_1 _ (List.mem_of_getElem? (i := 12) rfl)) rfl, by decide +kernel⟩
theorem lk_L_99 : LkV RL 99 yX12_kept := ⟨Or.inl (gW_in _ (tb_9 _ (List.mem_of_getElem? (i := 195) rfl)) rfl), gW_in _ (tb_9 _ (List.mem_of_getElem? (i := 196) rfl)) rfl, gW_in _ (tb_9 _ (List.mem_of_getElem? (i := 197) rfl)) rfl⟩
theorem lc_X12_kept : LkC yX12_kept cX12_kept 3 (some .int) 2 := ⟨gW_in _ (tb_9 _ (List.mem_of_getElem? (i := 198) rfl)) rfl, gW_in _ (tb_1 _ (List.mem_of_getElem? (i := 12) rfl)) rfl, by decide +kernel⟩
theorem lk_L_100 : LkV RL 100 yX11_down := ⟨Or.inl (gW_in _ (tb_2 _ (List.mem_of_getElem? (i := 177) rfl)) rfl), gW_in _ (tb_2 _ (List.mem_of_getElem? (i := 178) rfl)) rfl, gW_in _ (tb_2 _ (List.mem_of_getElem? (i := 179) rfl)) rfl⟩
theorem lc_X11_down : LkC yX11_down cX11_down 2 (some .int) 1 := ⟨gW_in _ (tb_2 _ (List.mem_of_getElem? (i := 180) rfl)) rfl, gW_in _ (tb_1 _ (List.mem_of_getElem? (i := 1) rfl)) rfl, by decide +kernel⟩
theorem lk_L_103 : LkV RL 103 yX12_down := ⟨Or.inl (gW_in _ (tb_9 _ (List.mem_of_getElem? (i := 199) rfl)) rfl), gW_in _ (tb_9 _ (List.mem_of_getElem? (i := 200) rfl)) rfl, gW_in _ (tb_9 _ (List.mem_of_getElem? (i := 201) rfl)) rfl⟩
theorem lc_X12_down : LkC yX12_down cX12_down 2 (some .int) 1 := ⟨gW_in _ (tb_9 _ (List.mem_of_getElem? (i := 202) rfl)) rfl, gW_in _ (tb_1 _ (List.mem_of_getElem? (i := 12) rfl)) rfl, by decide +kernel⟩
theorem lk_L_104 : LkV RL 104 yX11_item := ⟨Or.inl (gW_in _ (tb_2 _ (List.mem_of_getElem? (i := 192) rfl)) rfl), gW_in _ (tb_2 _ (List.mem_of_getElem? (i := 193) rfl)) rfl, gW_in _ (tb_2 _ (List.mem_of_getElem? (i := 194) rfl)) rfl⟩
theorem lc_X11_item : LkC yX11_item cX11_item 5 (some .int) 2 := ⟨gW_in _ (tb_2 _ (List.mem_of_getElem? (i := 195) rfl)) rfl, gW_in _ (tb_1 _ (List.mem_of_getElem? (i := 1) rfl)) rfl, by decide +kernel⟩
theorem lk_L_107 : LkV RL 107 yX12_item := ⟨Or.inl (gW_in _ (tb_9 _ (List.mem_of_getElem? (i := 203) rfl)) rfl), gW_in _ (tb_9 _ (List.mem_of_getElem? (i := 204) rfl)) rfl, gW_in _ (tb_9 _ (List.mem_of_getElem? (i := 205) rfl)) rfl⟩
theorem lc_X12_item : LkC yX12_item cX12_item 3 (some .int) 2 := ⟨gW_in _ (tb_9 _ (List.mem_of_getElem? (i := 206) rfl)) rfl, gW_in _ (tb_1 _ (List.mem_of_getElem? (i := 12) rfl)) rfl, by decide +kernel⟩
theorem lk_L_108 : LkV RL 108 yX11_craft := ⟨Or.inl (gW_in _ (tb_2 _ (List.mem_of_getElem? (i := 208) rfl)) rfl), gW_in _ (tb_2 _ (List.mem_of_getElem? (i := 209) rfl)) rfl, gW_in _ (tb_2 _ (List.mem_of_getElem? (i := 210) rfl)) rfl⟩
theorem lc_X11_craft : LkC yX11_craft cX11_craft 2 (some .int) 1 := ⟨gW_in _ (tb_2 _ (List.mem_of_getElem? (i := 211) rfl)) rfl, gW_in _ (tb_1 _ (List.mem_of_getElem? (i := 1) rfl)) rfl, by decide +kernel⟩
theorem lk_L_111 : LkV RL 111 yX12_craft := ⟨Or.inl (gW_in _ (tb_9 _ (List.mem_of_getElem? (i := 207) rfl)) rfl), gW_in _ (tb_9 _ (List.mem_of_getElem? (i := 208) rfl)) rfl, gW_in _ (tb_9 _ (List.mem_of_getElem? (i := 209) rfl)) rfl⟩
theorem lc_X12_craft : LkC yX12_craft cX12_craft 2 (some .int) 1 := ⟨gW_in _ (tb_9 _ (List.mem_of_getElem? (i := 210) rfl)) rfl, gW_in _ (tb_1 _ (List.mem_of_getElem? (i := 12) rfl)) rfl, by decide +kernel⟩
theorem dL_law_0 : decode cL_law 0 = .ok (.new 8, 3) := by decide +kernel
theorem dL_law_3 : decode cL_law 3 = .ok (.dup, 1) := by decide +kernel
theorem dL_law_4 : decode cL_law 4 = .ok (.invokespecial 47, 3) := by decide +kernel
theorem dL_law_7 : decode cL_law 7 = .ok (.astore_n 1, 1) := by decide +kernel
theorem dL_law_8 : decode cL_law 8 = .ok (.new 48, 3) := by decide +kernel
theorem dL_law_11 : decode cL_law 11 = .ok (.dup, 1) := by decide +kernel
theorem dL_law_12 : decode cL_law 12 = .ok (.invokespecial 50, 3) := by decide +kernel
theorem dL_law_15 : decode cL_law 15 = .ok (.astore_n 2, 1) := by decide +kernel
theorem dL_law_16 : decode cL_law 16 = .ok (.iconst 1, 1) := by decide +kernel
theorem dL_law_17 : decode cL_law 17 = .ok (.newarray .long, 2) := by decide +kernel
theorem dL_law_19 : decode cL_law 19 = .ok (.astore_n 3, 1) := by decide +kernel
theorem dL_law_20 : decode cL_law 20 = .ok (.iconst 0, 1) := by decide +kernel
theorem dL_law_21 : decode cL_law 21 = .ok (.istore 4, 2) := by decide +kernel
theorem dL_law_23 : decode cL_law 23 = .ok (.iload 4, 2) := by decide +kernel
theorem dL_law_25 : decode cL_law 25 = .ok (.aload_n 0, 1) := by decide +kernel
theorem dL_law_26 : decode cL_law 26 = .ok (.arraylength, 1) := by decide +kernel
theorem dL_law_27 : decode cL_law 27 = .ok (.bipush 6, 2) := by decide +kernel
theorem dL_law_29 : decode cL_law 29 = .ok (.isub, 1) := by decide +kernel
theorem dL_law_30 : decode cL_law 30 = .ok (.if_icmp .gt 897, 3) := by decide +kernel
theorem dL_law_33 : decode cL_law 33 = .ok (.aload_n 0, 1) := by decide +kernel
theorem dL_law_34 : decode cL_law 34 = .ok (.iload 4, 2) := by decide +kernel
theorem dL_law_36 : decode cL_law 36 = .ok (.iaload, 1) := by decide +kernel
theorem dL_law_37 : decode cL_law 37 = .ok (.bipush 15, 2) := by decide +kernel
theorem dL_law_39 : decode cL_law 39 = .ok (.iand, 1) := by decide +kernel
theorem dL_law_40 : decode cL_law 40 = .ok (.tableswitch 881 0 14 #[76, 149, 205, 261, 286, 342, 429, 497, 565, 633, 658, 726, 794, 819, 856], 76) := by decide +kernel
theorem dL_law_116 : decode cL_law 116 = .ok (.aload_n 1, 1) := by decide +kernel
theorem dL_law_117 : decode cL_law 117 = .ok (.aload_n 0, 1) := by decide +kernel
theorem dL_law_118 : decode cL_law 118 = .ok (.iload 4, 2) := by decide +kernel
theorem dL_law_120 : decode cL_law 120 = .ok (.iconst 1, 1) := by decide +kernel
theorem dL_law_121 : decode cL_law 121 = .ok (.iadd, 1) := by decide +kernel
theorem dL_law_122 : decode cL_law 122 = .ok (.iaload, 1) := by decide +kernel
theorem dL_law_123 : decode cL_law 123 = .ok (.aload_n 0, 1) := by decide +kernel
theorem dL_law_124 : decode cL_law 124 = .ok (.iload 4, 2) := by decide +kernel
theorem dL_law_126 : decode cL_law 126 = .ok (.iconst 2, 1) := by decide +kernel
theorem dL_law_127 : decode cL_law 127 = .ok (.iadd, 1) := by decide +kernel
theorem dL_law_128 : decode cL_law 128 = .ok (.iaload, 1) := by decide +kernel
theorem dL_law_129 : decode cL_law 129 = .ok (.aload_n 0, 1) := by decide +kernel
theorem dL_law_130 : decode cL_law 130 = .ok (.iload 4, 2) := by decide +kernel
theorem dL_law_132 : decode cL_law 132 = .ok (.iconst 3, 1) := by decide +kernel
theorem dL_law_133 : decode cL_law 133 = .ok (.iadd, 1) := by decide +kernel
theorem dL_law_134 : decode cL_law 134 = .ok (.iaload, 1) := by decide +kernel
theorem dL_law_135 : decode cL_law 135 = .ok (.aload_n 0, 1) := by decide +kernel
theorem dL_law_136 : decode cL_law 136 = .ok (.iload 4, 2) := by decide +kernel
theorem dL_law_138 : decode cL_law 138 = .ok (.iconst 4, 1) := by decide +kernel
theorem dL_law_139 : decode cL_law 139 = .ok (.iadd, 1) := by decide +kernel
theorem dL_law_140 : decode cL_law 140 = .ok (.iaload, 1) := by decide +kernel
theorem dL_law_141 : decode cL_law 141 = .ok (.aload_n 0, 1) := by decide +kernel
theorem dL_law_142 : decode cL_law 142 = .ok (.iload 4, 2) := by decide +kernel
theorem dL_law_144 : decode cL_law 144 = .ok (.iconst 5, 1) := by decide +kernel
theorem dL_law_145 : decode cL_law 145 = .ok (.iadd, 1) := by decide +kernel
theorem dL_law_146 : decode cL_law 146 = .ok (.iaload, 1) := by decide +kernel
theorem dL_law_147 : decode cL_law 147 = .ok (.invokevirtual 51, 3) := by decide +kernel
theorem dL_law_150 : decode cL_law 150 = .ok (.aload_n 2, 1) := by decide +kernel
theorem dL_law_151 : decode cL_law 151 = .ok (.aload_n 0, 1) := by decide +kernel
theorem dL_law_152 : decode cL_law 152 = .ok (.iload 4, 2) := by decide +kernel
theorem dL_law_154 : decode cL_law 154 = .ok (.iconst 1, 1) := by decide +kernel
theorem dL_law_155 : decode cL_law 155 = .ok (.iadd, 1) := by decide +kernel
theorem dL_law_156 : decode cL_law 156 = .ok (.iaload, 1) := by decide +kernel
theorem dL_law_157 : decode cL_law 157 = .ok (.aload_n 0, 1) := by decide +kernel
theorem dL_law_158 : decode cL_law 158 = .ok (.iload 4, 2) := by decide +kernel
theorem dL_law_160 : decode cL_law 160 = .ok (.iconst 2, 1) := by decide +kernel
theorem dL_law_161 : decode cL_law 161 = .ok (.iadd, 1) := by decide +kernel
theorem dL_law_162 : decode cL_law 162 = .ok (.iaload, 1) := by decide +kernel
theorem dL_law_163 : decode cL_law 163 = .ok (.aload_n 0, 1) := by decide +kernel
theorem dL_law_164 : decode cL_law 164 = .ok (.iload 4, 2) := by decide +kernel
theorem dL_law_166 : decode cL_law 166 = .ok (.iconst 3, 1) := by decide +kernel
theorem dL_law_167 : decode cL_law 167 = .ok (.iadd, 1) := by decide +kernel
theorem dL_law_168 : decode cL_law 168 = .ok (.iaload, 1) := by decide +kernel
theorem dL_law_169 : decode cL_law 169 = .ok (.aload_n 0, 1) := by decide +kernel
theorem dL_law_170 : decode cL_law 170 = .ok (.iload 4, 2) := by decide +kernel
theorem dL_law_172 : decode cL_law 172 = .ok (.iconst 4, 1) := by decide +kernel
theorem dL_law_173 : decode cL_law 173 = .ok (.iadd, 1) := by decide +kernel
theorem dL_law_174 : decode cL_law 174 = .ok (.iaload, 1) := by decide +kernel
theorem dL_law_175 : decode cL_law 175 = .ok (.aload_n 0, 1) := by decide +kernel
theorem dL_law_176 : decode cL_law 176 = .ok (.iload 4, 2) := by decide +kernel
theorem dL_law_178 : decode cL_law 178 = .ok (.iconst 5, 1) := by decide +kernel
theorem dL_law_179 : decode cL_law 179 = .ok (.iadd, 1) := by decide +kernel
theorem dL_law_180 : decode cL_law 180 = .ok (.iaload, 1) := by decide +kernel
theorem dL_law_181 : decode cL_law 181 = .ok (.invokevirtual 55, 3) := by decide +kernel
theorem dL_law_184 : decode cL_law 184 = .ok (.if_icmp .eq 737, 3) := by decide +kernel
theorem dL_law_187 : decode cL_law 187 = .ok (.iconst 0, 1) := by decide +kernel
theorem dL_law_188 : decode cL_law 188 = .ok (.ireturn, 1) := by decide +kernel
theorem dL_law_189 : decode cL_law 189 = .ok (.aload_n 1, 1) := by decide +kernel
theorem dL_law_190 : decode cL_law 190 = .ok (.aload_n 0, 1) := by decide +kernel
theorem dL_law_191 : decode cL_law 191 = .ok (.iload 4, 2) := by decide +kernel
theorem dL_law_193 : decode cL_law 193 = .ok (.iconst 1, 1) := by decide +kernel
theorem dL_law_194 : decode cL_law 194 = .ok (.iadd, 1) := by decide +kernel
theorem dL_law_195 : decode cL_law 195 = .ok (.iaload, 1) := by decide +kernel
theorem dL_law_196 : decode cL_law 196 = .ok (.aload_n 3, 1) := by decide +kernel
theorem dL_law_197 : decode cL_law 197 = .ok (.invokestatic 56, 3) := by decide +kernel
theorem dL_law_200 : decode cL_law 200 = .ok (.istore 5, 2) := by decide +kernel
theorem dL_law_202 : decode cL_law 202 = .ok (.aload_n 2, 1) := by decide +kernel
theorem dL_law_203 : decode cL_law 203 = .ok (.aload_n 0, 1) := by decide +kernel
theorem dL_law_204 : decode cL_law 204 = .ok (.iload 4, 2) := by decide +kernel
theorem dL_law_206 : decode cL_law 206 = .ok (.iconst 1, 1) := by decide +kernel
theorem dL_law_207 : decode cL_law 207 = .ok (.iadd, 1) := by decide +kernel
theorem dL_law_208 : decode cL_law 208 = .ok (.iaload, 1) := by decide +kernel
theorem dL_law_209 : decode cL_law 209 = .ok (.invokevirtual 61, 3) := by decide +kernel
theorem dL_law_212 : decode cL_law 212 = .ok (.istore 6, 2) := by decide +kernel
theorem dL_law_214 : decode cL_law 214 = .ok (.aload_n 2, 1) := by decide +kernel
theorem dL_law_215 : decode cL_law 215 = .ok (.invokevirtual 62, 3) := by decide +kernel
theorem dL_law_218 : decode cL_law 218 = .ok (.iload 5, 2) := by decide +kernel
theorem dL_law_220 : decode cL_law 220 = .ok (.if_icmp .eq 5, 3) := by decide +kernel
theorem dL_law_223 : decode cL_law 223 = .ok (.iconst 0, 1) := by decide +kernel
theorem dL_law_224 : decode cL_law 224 = .ok (.ireturn, 1) := by decide +kernel
theorem dL_law_225 : decode cL_law 225 = .ok (.iload 5, 2) := by decide +kernel
theorem dL_law_227 : decode cL_law 227 = .ok (.ifCond .ne 15, 3) := by decide +kernel
theorem dL_law_230 : decode cL_law 230 = .ok (.aload_n 3, 1) := by decide +kernel
theorem dL_law_231 : decode cL_law 231 = .ok (.iconst 0, 1) := by decide +kernel
theorem dL_law_232 : decode cL_law 232 = .ok (.laload, 1) := by decide +kernel
theorem dL_law_233 : decode cL_law 233 = .ok (.iload 6, 2) := by decide +kernel
theorem dL_law_235 : decode cL_law 235 = .ok (.i2l, 1) := by decide +kernel
theorem dL_law_236 : decode cL_law 236 = .ok (.lcmp, 1) := by decide +kernel
theorem dL_law_237 : decode cL_law 237 = .ok (.ifCond .eq 5, 3) := by decide +kernel
theorem dL_law_240 : decode cL_law 240 = .ok (.iconst 0, 1) := by decide +kernel
theorem dL_law_241 : decode cL_law 241 = .ok (.ireturn, 1) := by decide +kernel
theorem dL_law_242 : decode cL_law 242 = .ok (.goto 679, 3) := by decide +kernel
theorem dL_law_245 : decode cL_law 245 = .ok (.aload_n 1, 1) := by decide +kernel
theorem dL_law_246 : decode cL_law 246 = .ok (.aload_n 0, 1) := by decide +kernel
theorem dL_law_247 : decode cL_law 247 = .ok (.iload 4, 2) := by decide +kernel
theorem dL_law_249 : decode cL_law 249 = .ok (.iconst 1, 1) := by decide +kernel
theorem dL_law_250 : decode cL_law 250 = .ok (.iadd, 1) := by decide +kernel
theorem dL_law_251 : decode cL_law 251 = .ok (.iaload, 1) := by decide +kernel
theorem dL_law_252 : decode cL_law 252 = .ok (.aload_n 3, 1) := by decide +kernel
theorem dL_law_253 : decode cL_law 253 = .ok (.invokestatic 66, 3) := by decide +kernel
theorem dL_law_256 : decode cL_law 256 = .ok (.istore 5, 2) := by decide +kernel
theorem dL_law_258 : decode cL_law 258 = .ok (.aload_n 2, 1) := by decide +kernel
theorem dL_law_259 : decode cL_law 259 = .ok (.aload_n 0, 1) := by decide +kernel
theorem dL_law_260 : decode cL_law 260 = .ok (.iload 4, 2) := by decide +kernel
theorem dL_law_262 : decode cL_law 262 = .ok (.iconst 1, 1) := by decide +kernel
theorem dL_law_263 : decode cL_law 263 = .ok (.iadd, 1) := by decide +kernel
theorem dL_law_264 : decode cL_law 264 = .ok (.iaload, 1) := by decide +kernel
theorem dL_law_265 : decode cL_law 265 = .ok (.invokevirtual 68, 3) := by decide +kernel
theorem dL_law_268 : decode cL_law 268 = .ok (.istore 6, 2) := by decide +kernel
theorem dL_law_270 : decode cL_law 270 = .ok (.aload_n 2, 1) := by decide +kernel
theorem dL_law_271 : decode cL_law 271 = .ok (.invokevirtual 62, 3) := by decide +kernel
theorem dL_law_274 : decode cL_law 274 = .ok (.iload 5, 2) := by decide +kernel
theorem dL_law_276 : decode cL_law 276 = .ok (.if_icmp .eq 5, 3) := by decide +kernel
theorem dL_law_279 : decode cL_law 279 = .ok (.iconst 0, 1) := by decide +kernel
theorem dL_law_280 : decode cL_law 280 = .ok (.ireturn, 1) := by decide +kernel
theorem dL_law_281 : decode cL_law 281 = .ok (.iload 5, 2) := by decide +kernel
theorem dL_law_283 : decode cL_law 283 = .ok (.ifCond .ne 15, 3) := by decide +kernel
theorem dL_law_286 : decode cL_law 286 = .ok (.aload_n 3, 1) := by decide +kernel
theorem dL_law_287 : decode cL_law 287 = .ok (.iconst 0, 1) := by decide +kernel
theorem dL_law_288 : decode cL_law 288 = .ok (.laload, 1) := by decide +kernel
theorem dL_law_289 : decode cL_law 289 = .ok (.iload 6, 2) := by decide +kernel
theorem dL_law_291 : decode cL_law 291 = .ok (.i2l, 1) := by decide +kernel
theorem dL_law_292 : decode cL_law 292 = .ok (.lcmp, 1) := by decide +kernel
theorem dL_law_293 : decode cL_law 293 = .ok (.ifCond .eq 5, 3) := by decide +kernel
theorem dL_law_296 : decode cL_law 296 = .ok (.iconst 0, 1) := by decide +kernel
theorem dL_law_297 : decode cL_law 297 = .ok (.ireturn, 1) := by decide +kernel
theorem dL_law_298 : decode cL_law 298 = .ok (.goto 623, 3) := by decide +kernel
theorem dL_law_301 : decode cL_law 301 = .ok (.aload_n 1, 1) := by decide +kernel
theorem dL_law_302 : decode cL_law 302 = .ok (.aload_n 0, 1) := by decide +kernel
theorem dL_law_303 : decode cL_law 303 = .ok (.iload 4, 2) := by decide +kernel
theorem dL_law_305 : decode cL_law 305 = .ok (.iconst 1, 1) := by decide +kernel
theorem dL_law_306 : decode cL_law 306 = .ok (.iadd, 1) := by decide +kernel
theorem dL_law_307 : decode cL_law 307 = .ok (.iaload, 1) := by decide +kernel
theorem dL_law_308 : decode cL_law 308 = .ok (.invokevirtual 69, 3) := by decide +kernel
theorem dL_law_311 : decode cL_law 311 = .ok (.aload_n 2, 1) := by decide +kernel
theorem dL_law_312 : decode cL_law 312 = .ok (.aload_n 0, 1) := by decide +kernel
theorem dL_law_313 : decode cL_law 313 = .ok (.iload 4, 2) := by decide +kernel
theorem dL_law_315 : decode cL_law 315 = .ok (.iconst 1, 1) := by decide +kernel
theorem dL_law_316 : decode cL_law 316 = .ok (.iadd, 1) := by decide +kernel
theorem dL_law_317 : decode cL_law 317 = .ok (.iaload, 1) := by decide +kernel
theorem dL_law_318 : decode cL_law 318 = .ok (.invokevirtual 72, 3) := by decide +kernel
theorem dL_law_321 : decode cL_law 321 = .ok (.if_icmp .eq 600, 3) := by decide +kernel
theorem dL_law_324 : decode cL_law 324 = .ok (.iconst 0, 1) := by decide +kernel
theorem dL_law_325 : decode cL_law 325 = .ok (.ireturn, 1) := by decide +kernel
theorem dL_law_326 : decode cL_law 326 = .ok (.aload_n 1, 1) := by decide +kernel
theorem dL_law_327 : decode cL_law 327 = .ok (.aload_n 0, 1) := by decide +kernel
theorem dL_law_328 : decode cL_law 328 = .ok (.iload 4, 2) := by decide +kernel
theorem dL_law_330 : decode cL_law 330 = .ok (.iconst 1, 1) := by decide +kernel
theorem dL_law_331 : decode cL_law 331 = .ok (.iadd, 1) := by decide +kernel
theorem dL_law_332 : decode cL_law 332 = .ok (.iaload, 1) := by decide +kernel
theorem dL_law_333 : decode cL_law 333 = .ok (.aload_n 3, 1) := by decide +kernel
theorem dL_law_334 : decode cL_law 334 = .ok (.invokestatic 73, 3) := by decide +kernel
theorem dL_law_337 : decode cL_law 337 = .ok (.istore 5, 2) := by decide +kernel
theorem dL_law_339 : decode cL_law 339 = .ok (.aload_n 2, 1) := by decide +kernel
theorem dL_law_340 : decode cL_law 340 = .ok (.aload_n 0, 1) := by decide +kernel
theorem dL_law_341 : decode cL_law 341 = .ok (.iload 4, 2) := by decide +kernel
theorem dL_law_343 : decode cL_law 343 = .ok (.iconst 1, 1) := by decide +kernel
theorem dL_law_344 : decode cL_law 344 = .ok (.iadd, 1) := by decide +kernel
theorem dL_law_345 : decode cL_law 345 = .ok (.iaload, 1) := by decide +kernel
theorem dL_law_346 : decode cL_law 346 = .ok (.invokevirtual 75, 3) := by decide +kernel
theorem dL_law_349 : decode cL_law 349 = .ok (.istore 6, 2) := by decide +kernel
theorem dL_law_351 : decode cL_law 351 = .ok (.aload_n 2, 1) := by decide +kernel
theorem dL_law_352 : decode cL_law 352 = .ok (.invokevirtual 62, 3) := by decide +kernel
theorem dL_law_355 : decode cL_law 355 = .ok (.iload 5, 2) := by decide +kernel
theorem dL_law_357 : decode cL_law 357 = .ok (.if_icmp .eq 5, 3) := by decide +kernel
theorem dL_law_360 : decode cL_law 360 = .ok (.iconst 0, 1) := by decide +kernel
theorem dL_law_361 : decode cL_law 361 = .ok (.ireturn, 1) := by decide +kernel
theorem dL_law_362 : decode cL_law 362 = .ok (.iload 5, 2) := by decide +kernel
theorem dL_law_364 : decode cL_law 364 = .ok (.ifCond .ne 15, 3) := by decide +kernel
theorem dL_law_367 : decode cL_law 367 = .ok (.aload_n 3, 1) := by decide +kernel
theorem dL_law_368 : decode cL_law 368 = .ok (.iconst 0, 1) := by decide +kernel
theorem dL_law_369 : decode cL_law 369 = .ok (.laload, 1) := by decide +kernel
theorem dL_law_370 : decode cL_law 370 = .ok (.iload 6, 2) := by decide +kernel
theorem dL_law_372 : decode cL_law 372 = .ok (.i2l, 1) := by decide +kernel
theorem dL_law_373 : decode cL_law 373 = .ok (.lcmp, 1) := by decide +kernel
theorem dL_law_374 : decode cL_law 374 = .ok (.ifCond .eq 5, 3) := by decide +kernel
theorem dL_law_377 : decode cL_law 377 = .ok (.iconst 0, 1) := by decide +kernel
theorem dL_law_378 : decode cL_law 378 = .ok (.ireturn, 1) := by decide +kernel
theorem dL_law_379 : decode cL_law 379 = .ok (.goto 542, 3) := by decide +kernel
theorem dL_law_382 : decode cL_law 382 = .ok (.aload_n 1, 1) := by decide +kernel
theorem dL_law_383 : decode cL_law 383 = .ok (.aload_n 0, 1) := by decide +kernel
theorem dL_law_384 : decode cL_law 384 = .ok (.iload 4, 2) := by decide +kernel
theorem dL_law_386 : decode cL_law 386 = .ok (.iconst 1, 1) := by decide +kernel
theorem dL_law_387 : decode cL_law 387 = .ok (.iadd, 1) := by decide +kernel
theorem dL_law_388 : decode cL_law 388 = .ok (.iaload, 1) := by decide +kernel
theorem dL_law_389 : decode cL_law 389 = .ok (.aload_n 0, 1) := by decide +kernel
theorem dL_law_390 : decode cL_law 390 = .ok (.iload 4, 2) := by decide +kernel
theorem dL_law_392 : decode cL_law 392 = .ok (.iconst 2, 1) := by decide +kernel
theorem dL_law_393 : decode cL_law 393 = .ok (.iadd, 1) := by decide +kernel
theorem dL_law_394 : decode cL_law 394 = .ok (.iaload, 1) := by decide +kernel
theorem dL_law_395 : decode cL_law 395 = .ok (.aload_n 0, 1) := by decide +kernel
theorem dL_law_396 : decode cL_law 396 = .ok (.iload 4, 2) := by decide +kernel
theorem dL_law_398 : decode cL_law 398 = .ok (.iconst 3, 1) := by decide +kernel
theorem dL_law_399 : decode cL_law 399 = .ok (.iadd, 1) := by decide +kernel
theorem dL_law_400 : decode cL_law 400 = .ok (.iaload, 1) := by decide +kernel
theorem dL_law_401 : decode cL_law 401 = .ok (.aload_n 3, 1) := by decide +kernel
theorem dL_law_402 : decode cL_law 402 = .ok (.invokestatic 76, 3) := by decide +kernel
theorem dL_law_405 : decode cL_law 405 = .ok (.istore 5, 2) := by decide +kernel
theorem dL_law_407 : decode cL_law 407 = .ok (.aload_n 2, 1) := by decide +kernel
theorem dL_law_408 : decode cL_law 408 = .ok (.aload_n 0, 1) := by decide +kernel
theorem dL_law_409 : decode cL_law 409 = .ok (.iload 4, 2) := by decide +kernel
theorem dL_law_411 : decode cL_law 411 = .ok (.iconst 1, 1) := by decide +kernel
theorem dL_law_412 : decode cL_law 412 = .ok (.iadd, 1) := by decide +kernel
theorem dL_law_413 : decode cL_law 413 = .ok (.iaload, 1) := by decide +kernel
theorem dL_law_414 : decode cL_law 414 = .ok (.aload_n 0, 1) := by decide +kernel
theorem dL_law_415 : decode cL_law 415 = .ok (.iload 4, 2) := by decide +kernel
theorem dL_law_417 : decode cL_law 417 = .ok (.iconst 2, 1) := by decide +kernel
theorem dL_law_418 : decode cL_law 418 = .ok (.iadd, 1) := by decide +kernel
theorem dL_law_419 : decode cL_law 419 = .ok (.iaload, 1) := by decide +kernel
theorem dL_law_420 : decode cL_law 420 = .ok (.aload_n 0, 1) := by decide +kernel
theorem dL_law_421 : decode cL_law 421 = .ok (.iload 4, 2) := by decide +kernel
theorem dL_law_423 : decode cL_law 423 = .ok (.iconst 3, 1) := by decide +kernel
theorem dL_law_424 : decode cL_law 424 = .ok (.iadd, 1) := by decide +kernel
theorem dL_law_425 : decode cL_law 425 = .ok (.iaload, 1) := by decide +kernel
theorem dL_law_426 : decode cL_law 426 = .ok (.invokevirtual 79, 3) := by decide +kernel
theorem dL_law_429 : decode cL_law 429 = .ok (.istore 6, 2) := by decide +kernel
theorem dL_law_431 : decode cL_law 431 = .ok (.aload_n 2, 1) := by decide +kernel
theorem dL_law_432 : decode cL_law 432 = .ok (.invokevirtual 62, 3) := by decide +kernel
theorem dL_law_435 : decode cL_law 435 = .ok (.iload 5, 2) := by decide +kernel
theorem dL_law_437 : decode cL_law 437 = .ok (.if_icmp .eq 5, 3) := by decide +kernel
theorem dL_law_440 : decode cL_law 440 = .ok (.iconst 0, 1) := by decide +kernel
theorem dL_law_441 : decode cL_law 441 = .ok (.ireturn, 1) := by decide +kernel
theorem dL_law_442 : decode cL_law 442 = .ok (.iload 5, 2) := by decide +kernel
theorem dL_law_444 : decode cL_law 444 = .ok (.ifCond .ne 22, 3) := by decide +kernel
theorem dL_law_447 : decode cL_law 447 = .ok (.aload_n 3, 1) := by decide +kernel
theorem dL_law_448 : decode cL_law 448 = .ok (.iconst 0, 1) := by decide +kernel
theorem dL_law_449 : decode cL_law 449 = .ok (.laload, 1) := by decide +kernel
theorem dL_law_450 : decode cL_law 450 = .ok (.iload 6, 2) := by decide +kernel
theorem dL_law_452 : decode cL_law 452 = .ok (.ifCond .eq 7, 3) := by decide +kernel
theorem dL_law_455 : decode cL_law 455 = .ok (.lconst 1, 1) := by decide +kernel
theorem dL_law_456 : decode cL_law 456 = .ok (.goto 4, 3) := by decide +kernel
theorem dL_law_459 : decode cL_law 459 = .ok (.lconst 0, 1) := by decide +kernel
theorem dL_law_460 : decode cL_law 460 = .ok (.lcmp, 1) := by decide +kernel
theorem dL_law_461 : decode cL_law 461 = .ok (.ifCond .eq 5, 3) := by decide +kernel
theorem dL_law_464 : decode cL_law 464 = .ok (.iconst 0, 1) := by decide +kernel
theorem dL_law_465 : decode cL_law 465 = .ok (.ireturn, 1) := by decide +kernel
theorem dL_law_466 : decode cL_law 466 = .ok (.goto 455, 3) := by decide +kernel
theorem dL_law_469 : decode cL_law 469 = .ok (.aload_n 1, 1) := by decide +kernel
theorem dL_law_470 : decode cL_law 470 = .ok (.aload_n 0, 1) := by decide +kernel
theorem dL_law_471 : decode cL_law 471 = .ok (.iload 4, 2) := by decide +kernel
theorem dL_law_473 : decode cL_law 473 = .ok (.iconst 1, 1) := by decide +kernel
theorem dL_law_474 : decode cL_law 474 = .ok (.iadd, 1) := by decide +kernel
theorem dL_law_475 : decode cL_law 475 = .ok (.iaload, 1) := by decide +kernel
theorem dL_law_476 : decode cL_law 476 = .ok (.aload_n 0, 1) := by decide +kernel
theorem dL_law_477 : decode cL_law 477 = .ok (.iload 4, 2) := by decide +kernel
theorem dL_law_479 : decode cL_law 479 = .ok (.iconst 2, 1) := by decide +kernel
theorem dL_law_480 : decode cL_law 480 = .ok (.iadd, 1) := by decide +kernel
theorem dL_law_481 : decode cL_law 481 = .ok (.iaload, 1) := by decide +kernel
theorem dL_law_482 : decode cL_law 482 = .ok (.aload_n 3, 1) := by decide +kernel
theorem dL_law_483 : decode cL_law 483 = .ok (.invokestatic 80, 3) := by decide +kernel
theorem dL_law_486 : decode cL_law 486 = .ok (.istore 5, 2) := by decide +kernel
theorem dL_law_488 : decode cL_law 488 = .ok (.aload_n 2, 1) := by decide +kernel
theorem dL_law_489 : decode cL_law 489 = .ok (.aload_n 0, 1) := by decide +kernel
theorem dL_law_490 : decode cL_law 490 = .ok (.iload 4, 2) := by decide +kernel
theorem dL_law_492 : decode cL_law 492 = .ok (.iconst 1, 1) := by decide +kernel
theorem dL_law_493 : decode cL_law 493 = .ok (.iadd, 1) := by decide +kernel
theorem dL_law_494 : decode cL_law 494 = .ok (.iaload, 1) := by decide +kernel
theorem dL_law_495 : decode cL_law 495 = .ok (.aload_n 0, 1) := by decide +kernel
theorem dL_law_496 : decode cL_law 496 = .ok (.iload 4, 2) := by decide +kernel
theorem dL_law_498 : decode cL_law 498 = .ok (.iconst 2, 1) := by decide +kernel
theorem dL_law_499 : decode cL_law 499 = .ok (.iadd, 1) := by decide +kernel
theorem dL_law_500 : decode cL_law 500 = .ok (.iaload, 1) := by decide +kernel
theorem dL_law_501 : decode cL_law 501 = .ok (.invokevirtual 83, 3) := by decide +kernel
theorem dL_law_504 : decode cL_law 504 = .ok (.istore 6, 2) := by decide +kernel
theorem dL_law_506 : decode cL_law 506 = .ok (.aload_n 2, 1) := by decide +kernel
theorem dL_law_507 : decode cL_law 507 = .ok (.invokevirtual 62, 3) := by decide +kernel
theorem dL_law_510 : decode cL_law 510 = .ok (.iload 5, 2) := by decide +kernel
theorem dL_law_512 : decode cL_law 512 = .ok (.if_icmp .eq 5, 3) := by decide +kernel
theorem dL_law_515 : decode cL_law 515 = .ok (.iconst 0, 1) := by decide +kernel
theorem dL_law_516 : decode cL_law 516 = .ok (.ireturn, 1) := by decide +kernel
theorem dL_law_517 : decode cL_law 517 = .ok (.iload 5, 2) := by decide +kernel
theorem dL_law_519 : decode cL_law 519 = .ok (.ifCond .ne 15, 3) := by decide +kernel
theorem dL_law_522 : decode cL_law 522 = .ok (.aload_n 3, 1) := by decide +kernel
theorem dL_law_523 : decode cL_law 523 = .ok (.iconst 0, 1) := by decide +kernel
theorem dL_law_524 : decode cL_law 524 = .ok (.laload, 1) := by decide +kernel
theorem dL_law_525 : decode cL_law 525 = .ok (.iload 6, 2) := by decide +kernel
theorem dL_law_527 : decode cL_law 527 = .ok (.i2l, 1) := by decide +kernel
theorem dL_law_528 : decode cL_law 528 = .ok (.lcmp, 1) := by decide +kernel
theorem dL_law_529 : decode cL_law 529 = .ok (.ifCond .eq 5, 3) := by decide +kernel
theorem dL_law_532 : decode cL_law 532 = .ok (.iconst 0, 1) := by decide +kernel
theorem dL_law_533 : decode cL_law 533 = .ok (.ireturn, 1) := by decide +kernel
theorem dL_law_534 : decode cL_law 534 = .ok (.goto 387, 3) := by decide +kernel
theorem dL_law_537 : decode cL_law 537 = .ok (.aload_n 1, 1) := by decide +kernel
theorem dL_law_538 : decode cL_law 538 = .ok (.aload_n 0, 1) := by decide +kernel
theorem dL_law_539 : decode cL_law 539 = .ok (.iload 4, 2) := by decide +kernel
theorem dL_law_541 : decode cL_law 541 = .ok (.iconst 1, 1) := by decide +kernel
theorem dL_law_542 : decode cL_law 542 = .ok (.iadd, 1) := by decide +kernel
theorem dL_law_543 : decode cL_law 543 = .ok (.iaload, 1) := by decide +kernel
theorem dL_law_544 : decode cL_law 544 = .ok (.aload_n 0, 1) := by decide +kernel
theorem dL_law_545 : decode cL_law 545 = .ok (.iload 4, 2) := by decide +kernel
theorem dL_law_547 : decode cL_law 547 = .ok (.iconst 2, 1) := by decide +kernel
theorem dL_law_548 : decode cL_law 548 = .ok (.iadd, 1) := by decide +kernel
theorem dL_law_549 : decode cL_law 549 = .ok (.iaload, 1) := by decide +kernel
theorem dL_law_550 : decode cL_law 550 = .ok (.aload_n 3, 1) := by decide +kernel
theorem dL_law_551 : decode cL_law 551 = .ok (.invokestatic 84, 3) := by decide +kernel
theorem dL_law_554 : decode cL_law 554 = .ok (.istore 5, 2) := by decide +kernel
theorem dL_law_556 : decode cL_law 556 = .ok (.aload_n 2, 1) := by decide +kernel
theorem dL_law_557 : decode cL_law 557 = .ok (.aload_n 0, 1) := by decide +kernel
theorem dL_law_558 : decode cL_law 558 = .ok (.iload 4, 2) := by decide +kernel
theorem dL_law_560 : decode cL_law 560 = .ok (.iconst 1, 1) := by decide +kernel
theorem dL_law_561 : decode cL_law 561 = .ok (.iadd, 1) := by decide +kernel
theorem dL_law_562 : decode cL_law 562 = .ok (.iaload, 1) := by decide +kernel
theorem dL_law_563 : decode cL_law 563 = .ok (.aload_n 0, 1) := by decide +kernel
theorem dL_law_564 : decode cL_law 564 = .ok (.iload 4, 2) := by decide +kernel
theorem dL_law_566 : decode cL_law 566 = .ok (.iconst 2, 1) := by decide +kernel
theorem dL_law_567 : decode cL_law 567 = .ok (.iadd, 1) := by decide +kernel
theorem dL_law_568 : decode cL_law 568 = .ok (.iaload, 1) := by decide +kernel
theorem dL_law_569 : decode cL_law 569 = .ok (.invokevirtual 86, 3) := by decide +kernel
theorem dL_law_572 : decode cL_law 572 = .ok (.istore 6, 2) := by decide +kernel
theorem dL_law_574 : decode cL_law 574 = .ok (.aload_n 2, 1) := by decide +kernel
theorem dL_law_575 : decode cL_law 575 = .ok (.invokevirtual 62, 3) := by decide +kernel
theorem dL_law_578 : decode cL_law 578 = .ok (.iload 5, 2) := by decide +kernel
theorem dL_law_580 : decode cL_law 580 = .ok (.if_icmp .eq 5, 3) := by decide +kernel
theorem dL_law_583 : decode cL_law 583 = .ok (.iconst 0, 1) := by decide +kernel
theorem dL_law_584 : decode cL_law 584 = .ok (.ireturn, 1) := by decide +kernel
theorem dL_law_585 : decode cL_law 585 = .ok (.iload 5, 2) := by decide +kernel
theorem dL_law_587 : decode cL_law 587 = .ok (.ifCond .ne 15, 3) := by decide +kernel
theorem dL_law_590 : decode cL_law 590 = .ok (.aload_n 3, 1) := by decide +kernel
theorem dL_law_591 : decode cL_law 591 = .ok (.iconst 0, 1) := by decide +kernel
theorem dL_law_592 : decode cL_law 592 = .ok (.laload, 1) := by decide +kernel
theorem dL_law_593 : decode cL_law 593 = .ok (.iload 6, 2) := by decide +kernel
theorem dL_law_595 : decode cL_law 595 = .ok (.i2l, 1) := by decide +kernel
theorem dL_law_596 : decode cL_law 596 = .ok (.lcmp, 1) := by decide +kernel
theorem dL_law_597 : decode cL_law 597 = .ok (.ifCond .eq 5, 3) := by decide +kernel
theorem dL_law_600 : decode cL_law 600 = .ok (.iconst 0, 1) := by decide +kernel
theorem dL_law_601 : decode cL_law 601 = .ok (.ireturn, 1) := by decide +kernel
theorem dL_law_602 : decode cL_law 602 = .ok (.goto 319, 3) := by decide +kernel
theorem dL_law_605 : decode cL_law 605 = .ok (.aload_n 1, 1) := by decide +kernel
theorem dL_law_606 : decode cL_law 606 = .ok (.aload_n 0, 1) := by decide +kernel
theorem dL_law_607 : decode cL_law 607 = .ok (.iload 4, 2) := by decide +kernel
theorem dL_law_609 : decode cL_law 609 = .ok (.iconst 1, 1) := by decide +kernel
theorem dL_law_610 : decode cL_law 610 = .ok (.iadd, 1) := by decide +kernel
theorem dL_law_611 : decode cL_law 611 = .ok (.iaload, 1) := by decide +kernel
theorem dL_law_612 : decode cL_law 612 = .ok (.aload_n 0, 1) := by decide +kernel
theorem dL_law_613 : decode cL_law 613 = .ok (.iload 4, 2) := by decide +kernel
theorem dL_law_615 : decode cL_law 615 = .ok (.iconst 2, 1) := by decide +kernel
theorem dL_law_616 : decode cL_law 616 = .ok (.iadd, 1) := by decide +kernel
theorem dL_law_617 : decode cL_law 617 = .ok (.iaload, 1) := by decide +kernel
theorem dL_law_618 : decode cL_law 618 = .ok (.aload_n 3, 1) := by decide +kernel
theorem dL_law_619 : decode cL_law 619 = .ok (.invokestatic 87, 3) := by decide +kernel
theorem dL_law_622 : decode cL_law 622 = .ok (.istore 5, 2) := by decide +kernel
theorem dL_law_624 : decode cL_law 624 = .ok (.aload_n 2, 1) := by decide +kernel
theorem dL_law_625 : decode cL_law 625 = .ok (.aload_n 0, 1) := by decide +kernel
theorem dL_law_626 : decode cL_law 626 = .ok (.iload 4, 2) := by decide +kernel
theorem dL_law_628 : decode cL_law 628 = .ok (.iconst 1, 1) := by decide +kernel
theorem dL_law_629 : decode cL_law 629 = .ok (.iadd, 1) := by decide +kernel
theorem dL_law_630 : decode cL_law 630 = .ok (.iaload, 1) := by decide +kernel
theorem dL_law_631 : decode cL_law 631 = .ok (.aload_n 0, 1) := by decide +kernel
theorem dL_law_632 : decode cL_law 632 = .ok (.iload 4, 2) := by decide +kernel
theorem dL_law_634 : decode cL_law 634 = .ok (.iconst 2, 1) := by decide +kernel
theorem dL_law_635 : decode cL_law 635 = .ok (.iadd, 1) := by decide +kernel
theorem dL_law_636 : decode cL_law 636 = .ok (.iaload, 1) := by decide +kernel
theorem dL_law_637 : decode cL_law 637 = .ok (.invokevirtual 89, 3) := by decide +kernel
theorem dL_law_640 : decode cL_law 640 = .ok (.istore 6, 2) := by decide +kernel
theorem dL_law_642 : decode cL_law 642 = .ok (.aload_n 2, 1) := by decide +kernel
theorem dL_law_643 : decode cL_law 643 = .ok (.invokevirtual 62, 3) := by decide +kernel
theorem dL_law_646 : decode cL_law 646 = .ok (.iload 5, 2) := by decide +kernel
theorem dL_law_648 : decode cL_law 648 = .ok (.if_icmp .eq 5, 3) := by decide +kernel
theorem dL_law_651 : decode cL_law 651 = .ok (.iconst 0, 1) := by decide +kernel
theorem dL_law_652 : decode cL_law 652 = .ok (.ireturn, 1) := by decide +kernel
theorem dL_law_653 : decode cL_law 653 = .ok (.iload 5, 2) := by decide +kernel
theorem dL_law_655 : decode cL_law 655 = .ok (.ifCond .ne 15, 3) := by decide +kernel
theorem dL_law_658 : decode cL_law 658 = .ok (.aload_n 3, 1) := by decide +kernel
theorem dL_law_659 : decode cL_law 659 = .ok (.iconst 0, 1) := by decide +kernel
theorem dL_law_660 : decode cL_law 660 = .ok (.laload, 1) := by decide +kernel
theorem dL_law_661 : decode cL_law 661 = .ok (.iload 6, 2) := by decide +kernel
theorem dL_law_663 : decode cL_law 663 = .ok (.i2l, 1) := by decide +kernel
theorem dL_law_664 : decode cL_law 664 = .ok (.lcmp, 1) := by decide +kernel
theorem dL_law_665 : decode cL_law 665 = .ok (.ifCond .eq 5, 3) := by decide +kernel
theorem dL_law_668 : decode cL_law 668 = .ok (.iconst 0, 1) := by decide +kernel
theorem dL_law_669 : decode cL_law 669 = .ok (.ireturn, 1) := by decide +kernel
theorem dL_law_670 : decode cL_law 670 = .ok (.goto 251, 3) := by decide +kernel
theorem dL_law_673 : decode cL_law 673 = .ok (.aload_n 1, 1) := by decide +kernel
theorem dL_law_674 : decode cL_law 674 = .ok (.aload_n 0, 1) := by decide +kernel
theorem dL_law_675 : decode cL_law 675 = .ok (.iload 4, 2) := by decide +kernel
theorem dL_law_677 : decode cL_law 677 = .ok (.iconst 1, 1) := by decide +kernel
theorem dL_law_678 : decode cL_law 678 = .ok (.iadd, 1) := by decide +kernel
theorem dL_law_679 : decode cL_law 679 = .ok (.iaload, 1) := by decide +kernel
theorem dL_law_680 : decode cL_law 680 = .ok (.invokevirtual 90, 3) := by decide +kernel
theorem dL_law_683 : decode cL_law 683 = .ok (.aload_n 2, 1) := by decide +kernel
theorem dL_law_684 : decode cL_law 684 = .ok (.aload_n 0, 1) := by decide +kernel
theorem dL_law_685 : decode cL_law 685 = .ok (.iload 4, 2) := by decide +kernel
theorem dL_law_687 : decode cL_law 687 = .ok (.iconst 1, 1) := by decide +kernel
theorem dL_law_688 : decode cL_law 688 = .ok (.iadd, 1) := by decide +kernel
theorem dL_law_689 : decode cL_law 689 = .ok (.iaload, 1) := by decide +kernel
theorem dL_law_690 : decode cL_law 690 = .ok (.invokevirtual 93, 3) := by decide +kernel
theorem dL_law_693 : decode cL_law 693 = .ok (.if_icmp .eq 228, 3) := by decide +kernel
theorem dL_law_696 : decode cL_law 696 = .ok (.iconst 0, 1) := by decide +kernel
theorem dL_law_697 : decode cL_law 697 = .ok (.ireturn, 1) := by decide +kernel
theorem dL_law_698 : decode cL_law 698 = .ok (.aload_n 1, 1) := by decide +kernel
theorem dL_law_699 : decode cL_law 699 = .ok (.aload_n 0, 1) := by decide +kernel
theorem dL_law_700 : decode cL_law 700 = .ok (.iload 4, 2) := by decide +kernel
theorem dL_law_702 : decode cL_law 702 = .ok (.iconst 1, 1) := by decide +kernel
theorem dL_law_703 : decode cL_law 703 = .ok (.iadd, 1) := by decide +kernel
theorem dL_law_704 : decode cL_law 704 = .ok (.iaload, 1) := by decide +kernel
theorem dL_law_705 : decode cL_law 705 = .ok (.aload_n 0, 1) := by decide +kernel
theorem dL_law_706 : decode cL_law 706 = .ok (.iload 4, 2) := by decide +kernel
theorem dL_law_708 : decode cL_law 708 = .ok (.iconst 2, 1) := by decide +kernel
theorem dL_law_709 : decode cL_law 709 = .ok (.iadd, 1) := by decide +kernel
theorem dL_law_710 : decode cL_law 710 = .ok (.iaload, 1) := by decide +kernel
theorem dL_law_711 : decode cL_law 711 = .ok (.aload_n 3, 1) := by decide +kernel
theorem dL_law_712 : decode cL_law 712 = .ok (.invokestatic 94, 3) := by decide +kernel
theorem dL_law_715 : decode cL_law 715 = .ok (.istore 5, 2) := by decide +kernel
theorem dL_law_717 : decode cL_law 717 = .ok (.aload_n 2, 1) := by decide +kernel
theorem dL_law_718 : decode cL_law 718 = .ok (.aload_n 0, 1) := by decide +kernel
theorem dL_law_719 : decode cL_law 719 = .ok (.iload 4, 2) := by decide +kernel
theorem dL_law_721 : decode cL_law 721 = .ok (.iconst 1, 1) := by decide +kernel
theorem dL_law_722 : decode cL_law 722 = .ok (.iadd, 1) := by decide +kernel
theorem dL_law_723 : decode cL_law 723 = .ok (.iaload, 1) := by decide +kernel
theorem dL_law_724 : decode cL_law 724 = .ok (.aload_n 0, 1) := by decide +kernel
theorem dL_law_725 : decode cL_law 725 = .ok (.iload 4, 2) := by decide +kernel
theorem dL_law_727 : decode cL_law 727 = .ok (.iconst 2, 1) := by decide +kernel
theorem dL_law_728 : decode cL_law 728 = .ok (.iadd, 1) := by decide +kernel
theorem dL_law_729 : decode cL_law 729 = .ok (.iaload, 1) := by decide +kernel
theorem dL_law_730 : decode cL_law 730 = .ok (.invokevirtual 96, 3) := by decide +kernel
theorem dL_law_733 : decode cL_law 733 = .ok (.istore 6, 2) := by decide +kernel
theorem dL_law_735 : decode cL_law 735 = .ok (.aload_n 2, 1) := by decide +kernel
theorem dL_law_736 : decode cL_law 736 = .ok (.invokevirtual 62, 3) := by decide +kernel
theorem dL_law_739 : decode cL_law 739 = .ok (.iload 5, 2) := by decide +kernel
theorem dL_law_741 : decode cL_law 741 = .ok (.if_icmp .eq 5, 3) := by decide +kernel
theorem dL_law_744 : decode cL_law 744 = .ok (.iconst 0, 1) := by decide +kernel
theorem dL_law_745 : decode cL_law 745 = .ok (.ireturn, 1) := by decide +kernel
theorem dL_law_746 : decode cL_law 746 = .ok (.iload 5, 2) := by decide +kernel
theorem dL_law_748 : decode cL_law 748 = .ok (.ifCond .ne 15, 3) := by decide +kernel
theorem dL_law_751 : decode cL_law 751 = .ok (.aload_n 3, 1) := by decide +kernel
theorem dL_law_752 : decode cL_law 752 = .ok (.iconst 0, 1) := by decide +kernel
theorem dL_law_753 : decode cL_law 753 = .ok (.laload, 1) := by decide +kernel
theorem dL_law_754 : decode cL_law 754 = .ok (.iload 6, 2) := by decide +kernel
theorem dL_law_756 : decode cL_law 756 = .ok (.i2l, 1) := by decide +kernel
theorem dL_law_757 : decode cL_law 757 = .ok (.lcmp, 1) := by decide +kernel
theorem dL_law_758 : decode cL_law 758 = .ok (.ifCond .eq 5, 3) := by decide +kernel
theorem dL_law_761 : decode cL_law 761 = .ok (.iconst 0, 1) := by decide +kernel
theorem dL_law_762 : decode cL_law 762 = .ok (.ireturn, 1) := by decide +kernel
theorem dL_law_763 : decode cL_law 763 = .ok (.goto 158, 3) := by decide +kernel
theorem dL_law_766 : decode cL_law 766 = .ok (.aload_n 1, 1) := by decide +kernel
theorem dL_law_767 : decode cL_law 767 = .ok (.aload_n 0, 1) := by decide +kernel
theorem dL_law_768 : decode cL_law 768 = .ok (.iload 4, 2) := by decide +kernel
theorem dL_law_770 : decode cL_law 770 = .ok (.iconst 1, 1) := by decide +kernel
theorem dL_law_771 : decode cL_law 771 = .ok (.iadd, 1) := by decide +kernel
theorem dL_law_772 : decode cL_law 772 = .ok (.iaload, 1) := by decide +kernel
theorem dL_law_773 : decode cL_law 773 = .ok (.aload_n 0, 1) := by decide +kernel
theorem dL_law_774 : decode cL_law 774 = .ok (.iload 4, 2) := by decide +kernel
theorem dL_law_776 : decode cL_law 776 = .ok (.iconst 2, 1) := by decide +kernel
theorem dL_law_777 : decode cL_law 777 = .ok (.iadd, 1) := by decide +kernel
theorem dL_law_778 : decode cL_law 778 = .ok (.iaload, 1) := by decide +kernel
theorem dL_law_779 : decode cL_law 779 = .ok (.aload_n 3, 1) := by decide +kernel
theorem dL_law_780 : decode cL_law 780 = .ok (.invokestatic 97, 3) := by decide +kernel
theorem dL_law_783 : decode cL_law 783 = .ok (.istore 5, 2) := by decide +kernel
theorem dL_law_785 : decode cL_law 785 = .ok (.aload_n 2, 1) := by decide +kernel
theorem dL_law_786 : decode cL_law 786 = .ok (.aload_n 0, 1) := by decide +kernel
theorem dL_law_787 : decode cL_law 787 = .ok (.iload 4, 2) := by decide +kernel
theorem dL_law_789 : decode cL_law 789 = .ok (.iconst 1, 1) := by decide +kernel
theorem dL_law_790 : decode cL_law 790 = .ok (.iadd, 1) := by decide +kernel
theorem dL_law_791 : decode cL_law 791 = .ok (.iaload, 1) := by decide +kernel
theorem dL_law_792 : decode cL_law 792 = .ok (.aload_n 0, 1) := by decide +kernel
theorem dL_law_793 : decode cL_law 793 = .ok (.iload 4, 2) := by decide +kernel
theorem dL_law_795 : decode cL_law 795 = .ok (.iconst 2, 1) := by decide +kernel
theorem dL_law_796 : decode cL_law 796 = .ok (.iadd, 1) := by decide +kernel
theorem dL_law_797 : decode cL_law 797 = .ok (.iaload, 1) := by decide +kernel
theorem dL_law_798 : decode cL_law 798 = .ok (.invokevirtual 99, 3) := by decide +kernel
theorem dL_law_801 : decode cL_law 801 = .ok (.istore 6, 2) := by decide +kernel
theorem dL_law_803 : decode cL_law 803 = .ok (.aload_n 2, 1) := by decide +kernel
theorem dL_law_804 : decode cL_law 804 = .ok (.invokevirtual 62, 3) := by decide +kernel
theorem dL_law_807 : decode cL_law 807 = .ok (.iload 5, 2) := by decide +kernel
theorem dL_law_809 : decode cL_law 809 = .ok (.if_icmp .eq 5, 3) := by decide +kernel
theorem dL_law_812 : decode cL_law 812 = .ok (.iconst 0, 1) := by decide +kernel
theorem dL_law_813 : decode cL_law 813 = .ok (.ireturn, 1) := by decide +kernel
theorem dL_law_814 : decode cL_law 814 = .ok (.iload 5, 2) := by decide +kernel
theorem dL_law_816 : decode cL_law 816 = .ok (.ifCond .ne 15, 3) := by decide +kernel
theorem dL_law_819 : decode cL_law 819 = .ok (.aload_n 3, 1) := by decide +kernel
theorem dL_law_820 : decode cL_law 820 = .ok (.iconst 0, 1) := by decide +kernel
theorem dL_law_821 : decode cL_law 821 = .ok (.laload, 1) := by decide +kernel
theorem dL_law_822 : decode cL_law 822 = .ok (.iload 6, 2) := by decide +kernel
theorem dL_law_824 : decode cL_law 824 = .ok (.i2l, 1) := by decide +kernel
theorem dL_law_825 : decode cL_law 825 = .ok (.lcmp, 1) := by decide +kernel
theorem dL_law_826 : decode cL_law 826 = .ok (.ifCond .eq 5, 3) := by decide +kernel
theorem dL_law_829 : decode cL_law 829 = .ok (.iconst 0, 1) := by decide +kernel
theorem dL_law_830 : decode cL_law 830 = .ok (.ireturn, 1) := by decide +kernel
theorem dL_law_831 : decode cL_law 831 = .ok (.goto 90, 3) := by decide +kernel
theorem dL_law_834 : decode cL_law 834 = .ok (.aload_n 1, 1) := by decide +kernel
theorem dL_law_835 : decode cL_law 835 = .ok (.aload_n 0, 1) := by decide +kernel
theorem dL_law_836 : decode cL_law 836 = .ok (.iload 4, 2) := by decide +kernel
theorem dL_law_838 : decode cL_law 838 = .ok (.iconst 1, 1) := by decide +kernel
theorem dL_law_839 : decode cL_law 839 = .ok (.iadd, 1) := by decide +kernel
theorem dL_law_840 : decode cL_law 840 = .ok (.iaload, 1) := by decide +kernel
theorem dL_law_841 : decode cL_law 841 = .ok (.invokevirtual 100, 3) := by decide +kernel
theorem dL_law_844 : decode cL_law 844 = .ok (.aload_n 2, 1) := by decide +kernel
theorem dL_law_845 : decode cL_law 845 = .ok (.aload_n 0, 1) := by decide +kernel
theorem dL_law_846 : decode cL_law 846 = .ok (.iload 4, 2) := by decide +kernel
theorem dL_law_848 : decode cL_law 848 = .ok (.iconst 1, 1) := by decide +kernel
theorem dL_law_849 : decode cL_law 849 = .ok (.iadd, 1) := by decide +kernel
theorem dL_law_850 : decode cL_law 850 = .ok (.iaload, 1) := by decide +kernel
theorem dL_law_851 : decode cL_law 851 = .ok (.invokevirtual 103, 3) := by decide +kernel
theorem dL_law_854 : decode cL_law 854 = .ok (.if_icmp .eq 67, 3) := by decide +kernel
theorem dL_law_857 : decode cL_law 857 = .ok (.iconst 0, 1) := by decide +kernel
theorem dL_law_858 : decode cL_law 858 = .ok (.ireturn, 1) := by decide +kernel
theorem dL_law_859 : decode cL_law 859 = .ok (.aload_n 1, 1) := by decide +kernel
theorem dL_law_860 : decode cL_law 860 = .ok (.aload_n 0, 1) := by decide +kernel
theorem dL_law_861 : decode cL_law 861 = .ok (.iload 4, 2) := by decide +kernel
theorem dL_law_863 : decode cL_law 863 = .ok (.iconst 1, 1) := by decide +kernel
theorem dL_law_864 : decode cL_law 864 = .ok (.iadd, 1) := by decide +kernel
theorem dL_law_865 : decode cL_law 865 = .ok (.iaload, 1) := by decide +kernel
theorem dL_law_866 : decode cL_law 866 = .ok (.aload_n 0, 1) := by decide +kernel
theorem dL_law_867 : decode cL_law 867 = .ok (.iload 4, 2) := by decide +kernel
theorem dL_law_869 : decode cL_law 869 = .ok (.iconst 2, 1) := by decide +kernel
theorem dL_law_870 : decode cL_law 870 = .ok (.iadd, 1) := by decide +kernel
theorem dL_law_871 : decode cL_law 871 = .ok (.iaload, 1) := by decide +kernel
theorem dL_law_872 : decode cL_law 872 = .ok (.invokevirtual 104, 3) := by decide +kernel
theorem dL_law_875 : decode cL_law 875 = .ok (.aload_n 2, 1) := by decide +kernel
theorem dL_law_876 : decode cL_law 876 = .ok (.aload_n 0, 1) := by decide +kernel
theorem dL_law_877 : decode cL_law 877 = .ok (.iload 4, 2) := by decide +kernel
theorem dL_law_879 : decode cL_law 879 = .ok (.iconst 1, 1) := by decide +kernel
theorem dL_law_880 : decode cL_law 880 = .ok (.iadd, 1) := by decide +kernel
theorem dL_law_881 : decode cL_law 881 = .ok (.iaload, 1) := by decide +kernel
theorem dL_law_882 : decode cL_law 882 = .ok (.aload_n 0, 1) := by decide +kernel
theorem dL_law_883 : decode cL_law 883 = .ok (.iload 4, 2) := by decide +kernel
theorem dL_law_885 : decode cL_law 885 = .ok (.iconst 2, 1) := by decide +kernel
theorem dL_law_886 : decode cL_law 886 = .ok (.iadd, 1) := by decide +kernel
theorem dL_law_887 : decode cL_law 887 = .ok (.iaload, 1) := by decide +kernel
theorem dL_law_888 : decode cL_law 888 = .ok (.invokevirtual 107, 3) := by decide +kernel
theorem dL_law_891 : decode cL_law 891 = .ok (.if_icmp .eq 30, 3) := by decide +kernel
theorem dL_law_894 : decode cL_law 894 = .ok (.iconst 0, 1) := by decide +kernel
theorem dL_law_895 : decode cL_law 895 = .ok (.ireturn, 1) := by decide +kernel
theorem dL_law_896 : decode cL_law 896 = .ok (.aload_n 1, 1) := by decide +kernel
theorem dL_law_897 : decode cL_law 897 = .ok (.aload_n 0, 1) := by decide +kernel
theorem dL_law_898 : decode cL_law 898 = .ok (.iload 4, 2) := by decide +kernel
theorem dL_law_900 : decode cL_law 900 = .ok (.iconst 1, 1) := by decide +kernel
theorem dL_law_901 : decode cL_law 901 = .ok (.iadd, 1) := by decide +kernel
theorem dL_law_902 : decode cL_law 902 = .ok (.iaload, 1) := by decide +kernel
theorem dL_law_903 : decode cL_law 903 = .ok (.invokevirtual 108, 3) := by decide +kernel
theorem dL_law_906 : decode cL_law 906 = .ok (.aload_n 2, 1) := by decide +kernel
theorem dL_law_907 : decode cL_law 907 = .ok (.aload_n 0, 1) := by decide +kernel
theorem dL_law_908 : decode cL_law 908 = .ok (.iload 4, 2) := by decide +kernel
theorem dL_law_910 : decode cL_law 910 = .ok (.iconst 1, 1) := by decide +kernel
theorem dL_law_911 : decode cL_law 911 = .ok (.iadd, 1) := by decide +kernel
theorem dL_law_912 : decode cL_law 912 = .ok (.iaload, 1) := by decide +kernel
theorem dL_law_913 : decode cL_law 913 = .ok (.invokevirtual 111, 3) := by decide +kernel
theorem dL_law_916 : decode cL_law 916 = .ok (.if_icmp .eq 5, 3) := by decide +kernel
theorem dL_law_919 : decode cL_law 919 = .ok (.iconst 0, 1) := by decide +kernel
theorem dL_law_920 : decode cL_law 920 = .ok (.ireturn, 1) := by decide +kernel
theorem dL_law_921 : decode cL_law 921 = .ok (.iinc 4 6, 3) := by decide +kernel
theorem dL_law_924 : decode cL_law 924 = .ok (.goto (-901), 3) := by decide +kernel
theorem dL_law_927 : decode cL_law 927 = .ok (.iconst 1, 1) := by decide +kernel
theorem dL_law_928 : decode cL_law 928 = .ok (.ireturn, 1) := by decide +kernel
theorem i_add66 (j : Nat) : Int32.ofNat (6 * j) + Int32.ofInt 6 = Int32.ofNat (6 * (j + 1)) := by
  rw [Nat.mul_succ]
  exact i_add6 j 6
theorem law_next {f : State → Prop} {b Ls : Nat} {xs : Nat → Int32} {G : Gm} {r j : Nat} (hL : LG f b Ls xs G r) {I : MI} {L : ML} {R : MR} (kk : V G f 23 (lvL G b (j + 1)) [] I L R) : V G f 921 (lvL G b j) [] I L R :=
  V_iinc hL.C0 0 (lvL G b (j + 1)) rfl (i_add66 j) (by rw [hL.2.2.1]; decide) rfl dL_law_921 (V_goto hL.C0 (tgt := 23) (by decide) dL_law_924 kk)
theorem law_next7 {f : State → Prop} {b Ls : Nat} {xs : Nat → Int32} {G : Gm} {r j : Nat} (hL : LG f b Ls xs G r) {I : MI} {L : ML} {R : MR} {x y : Value} (kk : V G f 23 (lvL G b (j + 1)) [] I L R) : V G f 921 ((6, x) :: (5, y) :: lvL G b j) [] I L R :=
  V_sub [2, 3, 4, 5, 6] rfl (law_next hL kk)
theorem lg_self (x : Int64) : lg_cmp x x = 0 := by
  unfold lg_cmp
  simp
set_option maxRecDepth 100000 in
theorem law_feed {f : State → Prop} {b Ls : Nat} {xs : Nat → Int32} {G : Gm} {r j : Nat} (hL : LG f b Ls xs G r) (hj : 6 * j + 6 ≤ Ls) {I I1 I2 : MI} {L : ML} {R : MR} {v : Int32} (h1 : F_X11_feed 5000 0 (xs (6 * j + 1)) (xs (6 * j + 2)) (xs (6 * j + 3)) (xs (6 * j + 4)) (xs (6 * j + 5)) I L R = some (v, I1)) (h2 : F_X12_feed 5000 24 (xs (6 * j + 1)) (xs (6 * j + 2)) (xs (6 * j + 3)) (xs (6 * j + 4)) (xs (6 * j + 5)) I1 L R = some (v, I2)) (kk : V G f 23 (lvL G b (j + 1)) [] I2 L R) : V G f 116 (lvL G b j) [] I L R := by
  refine V_aload_n hL.C0 3 rfl rfl dL_law_116 ?_
  refine V_arg hL hj 1 4 0 (by decide) rfl rfl (by decide) rfl rfl rfl rfl rfl dL_law_117 dL_law_118 dL_law_120 dL_law_121 dL_law_122 ?_
  refine V_arg hL hj 2 4 0 (by decide) rfl rfl (by decide) rfl rfl rfl rfl rfl dL_law_123 dL_law_124 dL_law_126 dL_law_127 dL_law_128 ?_
  refine V_arg hL hj 3 4 0 (by decide) rfl rfl (by decide) rfl rfl rfl rfl rfl dL_law_129 dL_law_130 dL_law_132 dL_law_133 dL_law_134 ?_
  refine V_arg hL hj 4 4 0 (by decide) rfl rfl (by decide) rfl rfl rfl rfl rfl dL_law_135 dL_law_136 dL_law_138 dL_law_139 dL_law_140 ?_
  refine V_arg hL hj 5 4 0 (by decide) rfl rfl (by decide) rfl rfl rfl rfl rfl dL_law_141 dL_law_142 dL_law_144 dL_law_145 dL_law_146 ?_
  refine V_callV hL.C0 (st := []) (As := [.int (xs (6 * j + 1)), .int (xs (6 * j + 2)), .int (xs (6 * j + 3)), .int (xs (6 * j + 4)), .int (xs (6 * j + 5))]) 10 (c_X11_feed G.l G.D G.cA G.ad G.bs G.X hL.C0.2.2.2.2.2.2.2.2.2.1 hL.C0.2.2.2.2.2.2.2.2.2.2.2.2 5000 0 (xs (6 * j + 1)) (xs (6 * j + 2)) (xs (6 * j + 3)) (xs (6 * j + 4)) (xs (6 * j + 5)) I L R v I1 h1) lc_X11_feed lk_L_51 (by decide) (by decide) ⟨_, rfl, rfl⟩ rfl (hL.room (by decide) (by decide)) (Nat.le_of_ble_eq_true rfl) dL_law_147 ?_
  show V G f 150 (lvL G b j) [.int v] I1 L R
  refine V_aload_n hL.C0 2 rfl rfl dL_law_150 ?_
  refine V_arg hL hj 1 4 0 (by decide) rfl rfl (by decide) rfl rfl rfl rfl rfl dL_law_151 dL_law_152 dL_law_154 dL_law_155 dL_law_156 ?_
  refine V_arg hL hj 2 4 0 (by decide) rfl rfl (by decide) rfl rfl rfl rfl rfl dL_law_157 dL_law_158 dL_law_160 dL_law_161 dL_law_162 ?_
  refine V_arg hL hj 3 4 0 (by decide) rfl rfl (by decide) rfl rfl rfl rfl rfl dL_law_163 dL_law_164 dL_law_166 dL_law_167 dL_law_168 ?_
  refine V_arg hL hj 4 4 0 (by decide) rfl rfl (by decide) rfl rfl rfl rfl rfl dL_law_169 dL_law_170 dL_law_172 dL_law_173 dL_law_174 ?_
  refine V_arg hL hj 5 4 0 (by decide) rfl rfl (by decide) rfl rfl rfl rfl rfl dL_law_175 dL_law_176 dL_law_178 dL_law_179 dL_law_180 ?_
  refine V_callV hL.C0 (st := [.int v]) (As := [.int (xs (6 * j + 1)), .int (xs (6 * j + 2)), .int (xs (6 * j + 3)), .int (xs (6 * j + 4)), .int (xs (6 * j + 5))]) 11 (c_X12_feed G.l G.D G.cA G.ad G.bs G.X hL.C0.2.2.2.2.2.2.2.2.2.1 hL.C0.2.2.2.2.2.2.2.2.2.2.2.2 5000 24 (xs (6 * j + 1)) (xs (6 * j + 2)) (xs (6 * j + 3)) (xs (6 * j + 4)) (xs (6 * j + 5)) I1 L R v I2 h2) lc_X12_feed lk_L_55 (by decide) (by decide) ⟨_, rfl, rfl⟩ rfl (hL.room (by decide) (by decide)) (Nat.le_of_ble_eq_true rfl) dL_law_181 ?_
  show V G f 184 (lvL G b j) [.int v, .int v] I2 L R
  exact V_icmp_eq hL.C0 (tgt := 921) (by decide) dL_law_184 (fun _ => law_next hL kk) (fun h => absurd rfl h)
set_option maxRecDepth 100000 in
theorem tail_load {f : State → Prop} {b Ls : Nat} {xs : Nat → Int32} {G : Gm} {r j : Nat} (hL : LG f b Ls xs G r) (hj : 6 * j + 6 ≤ Ls) {I I2 : MI} {L : ML} {R : MR} {v : Int32} {k : Int32} (h2 : F_X12_load 5000 24 (xs (6 * j + 1)) I L R = some (v, I2)) (h5 : I2 24 5 = k) (h0 : k = 0 → L 57 0 = v.toInt64) (kk : V G f 23 (lvL G b (j + 1)) [] I2 L R) : V G f 200 (lvL G b j) [.int k] I L R := by
  refine V_istore hL.C0 ((5, .int k) :: lvL G b j) (by rw [hL.2.2.1]; decide) rfl dL_law_200 ?_
  refine V_aload_n hL.C0 3 rfl rfl dL_law_202 ?_
  refine V_arg hL hj 1 5 1 (by decide) rfl rfl (by decide) rfl rfl rfl rfl rfl dL_law_203 dL_law_204 dL_law_206 dL_law_207 dL_law_208 ?_
  refine V_callV hL.C0 (st := []) (As := [.int (xs (6 * j + 1))]) 11 (c_X12_load G.l G.D G.cA G.ad G.bs G.X hL.C0.2.2.2.2.2.2.2.2.2.1 hL.C0.2.2.2.2.2.2.2.2.2.2.2.2 5000 24 (xs (6 * j + 1)) I L R v I2 h2) lc_X12_load lk_L_61 (by decide) (by decide) ⟨_, rfl, rfl⟩ rfl (hL.room (by decide) (by decide)) (Nat.le_of_ble_eq_true rfl) dL_law_209 ?_
  show V G f 212 ((5, .int k) :: lvL G b j) [.int v] I2 L R
  refine V_istore hL.C0 ((6, .int v) :: (5, .int k) :: lvL G b j) (by rw [hL.2.2.1]; decide) rfl dL_law_212 ?_
  refine V_aload_n hL.C0 4 rfl rfl dL_law_214 ?_
  refine V_callV hL.C0 (st := []) (As := []) 11 (c_X12_thrown G.l G.D G.cA G.ad G.bs G.X hL.C0.2.2.2.2.2.2.2.2.2.1 hL.C0.2.2.2.2.2.2.2.2.2.2.2.2 24 I2 L R (I2 24 5) thrown_eq) lc_X12_thrown lk_L_62 (by decide) (by decide) ⟨_, rfl, rfl⟩ rfl (hL.room (by decide) (by decide)) (Nat.le_of_ble_eq_true rfl) dL_law_215 ?_
  show V G f 218 ((6, .int v) :: (5, .int k) :: lvL G b j) [.int (I2 24 5)] I2 L R
  rw [h5]
  refine V_iload hL.C0 1 rfl dL_law_218 ?_
  refine V_icmp_eq hL.C0 (tgt := 225) (by decide) dL_law_220 (fun _ => ?_) (fun h => absurd rfl h)
  refine V_iload hL.C0 1 rfl dL_law_225 ?_
  refine V_if_ne hL.C0 (tgt := 242) (by decide) dL_law_227 (fun _ => ?_) (fun hk => ?_)
  · exact V_goto hL.C0 (tgt := 921) (by decide) dL_law_242 (law_next7 hL kk)
  · refine V_aload_n hL.C0 3 rfl rfl dL_law_230 ?_
    refine V_iconst hL.C0 (v := (0 : Int32)) (by decide) dL_law_231 ?_
    refine V_lald hL.C0 (by decide) (by decide) in57 dL_law_232 ?_
    rw [show L 57 (ix (0 : Int32)) = L 57 0 from rfl, h0 hk]
    refine V_iload hL.C0 0 rfl dL_law_233 ?_
    refine V_i2l hL.C0 dL_law_235 (V_lcmp hL.C0 dL_law_236 ?_)
    rw [lg_self]
    exact V_if_eq hL.C0 (tgt := 242) (by decide) dL_law_237 (fun _ => V_goto hL.C0 (tgt := 921) (by decide) dL_law_242 (law_next7 hL kk)) (fun h => absurd rfl h)
set_option maxRecDepth 100000 in
theorem head_load {f : State → Prop} {b Ls : Nat} {xs : Nat → Int32} {G : Gm} {r j : Nat} (hL : LG f b Ls xs G (r + 1)) (hj : 6 * j + 6 ≤ Ls) {nc ns : Nat} (hnc : nc ≤ 1) (hns : ns ≤ 6) {I I1 : MI} {L L1 : ML} {R R1 : MR} {k : Int32} (hM : CnH G.l G.D G.cA G.ad G.bs G.X yL_load cL_load 4 hh_load 10 215 nc ns [.ref (G.ad 0), .int (xs (6 * j + 1)), .ref (G.ad 57)] I L R (some (.int k), I1, L1, R1)) (kk : ∀ G9 : Gm, G9.ad = G.ad → LG f b Ls xs G9 r → V G9 f 200 (lvL G9 b j) [.int k] I1 L1 R1) : V G f 189 (lvL G b j) [] I L R := by
  refine V_aload_n hL.C0 3 rfl rfl dL_law_189 ?_
  refine V_arg hL hj 1 4 0 (by decide) rfl rfl (by decide) rfl rfl rfl rfl rfl dL_law_190 dL_law_191 dL_law_193 dL_law_194 dL_law_195 ?_
  refine V_aload_n hL.C0 1 rfl rfl dL_law_196 ?_
  refine V_callSH hL.C0 (st := []) (As := [.ref (G.ad 0), .int (xs (6 * j + 1)), .ref (G.ad 57)]) hM lh_load rfl (hL.room (by decide) (by decide)) ⟨Nat.le_trans hnc (Nat.le_trans (Nat.le_add_left 1 r) hL.2.2.2.1.2.2.1), Nat.le_trans hns (Nat.le_trans (by omega) hL.2.2.2.1.2.2.2)⟩ (Nat.le_of_ble_eq_true rfl) dL_law_197 ?_
  refine VH_re hL.C0 hL.2.1 (Nat.le_trans hnc (Nat.le_trans (Nat.le_add_left 1 r) hL.2.2.2.1.2.2.1)) (Nat.le_trans hns (Nat.le_trans (by omega) hL.2.2.2.1.2.2.2)) (fun s' C1 hE => ?_)
  exact kk (reB G s' nc ns) rfl (hL.re hnc hns C1 hE)
set_option maxRecDepth 100000 in
theorem tail_plan {f : State → Prop} {b Ls : Nat} {xs : Nat → Int32} {G : Gm} {r j : Nat} (hL : LG f b Ls xs G r) (hj : 6 * j + 6 ≤ Ls) {I I2 : MI} {L : ML} {R : MR} {v : Int32} {k : Int32} (h2 : F_X12_plan 5000 24 (xs (6 * j + 1)) I L R = some (v, I2)) (h5 : I2 24 5 = k) (h0 : k = 0 → L 57 0 = v.toInt64) (kk : V G f 23 (lvL G b (j + 1)) [] I2 L R) : V G f 256 (lvL G b j) [.int k] I L R := by
  refine V_istore hL.C0 ((5, .int k) :: lvL G b j) (by rw [hL.2.2.1]; decide) rfl dL_law_256 ?_
  refine V_aload_n hL.C0 3 rfl rfl dL_law_258 ?_
  refine V_arg hL hj 1 5 1 (by decide) rfl rfl (by decide) rfl rfl rfl rfl rfl dL_law_259 dL_law_260 dL_law_262 dL_law_263 dL_law_264 ?_
  refine V_callV hL.C0 (st := []) (As := [.int (xs (6 * j + 1))]) 11 (c_X12_plan G.l G.D G.cA G.ad G.bs G.X hL.C0.2.2.2.2.2.2.2.2.2.1 hL.C0.2.2.2.2.2.2.2.2.2.2.2.2 5000 24 (xs (6 * j + 1)) I L R v I2 h2) lc_X12_plan lk_L_68 (by decide) (by decide) ⟨_, rfl, rfl⟩ rfl (hL.room (by decide) (by decide)) (Nat.le_of_ble_eq_true rfl) dL_law_265 ?_
  show V G f 268 ((5, .int k) :: lvL G b j) [.int v] I2 L R
  refine V_istore hL.C0 ((6, .int v) :: (5, .int k) :: lvL G b j) (by rw [hL.2.2.1]; decide) rfl dL_law_268 ?_
  refine V_aload_n hL.C0 4 rfl rfl dL_law_270 ?_
  refine V_callV hL.C0 (st := []) (As := []) 11 (c_X12_thrown G.l G.D G.cA G.ad G.bs G.X hL.C0.2.2.2.2.2.2.2.2.2.1 hL.C0.2.2.2.2.2.2.2.2.2.2.2.2 24 I2 L R (I2 24 5) thrown_eq) lc_X12_thrown lk_L_62 (by decide) (by decide) ⟨_, rfl, rfl⟩ rfl (hL.room (by decide) (by decide)) (Nat.le_of_ble_eq_true rfl) dL_law_271 ?_
  show V G f 274 ((6, .int v) :: (5, .int k) :: lvL G b j) [.int (I2 24 5)] I2 L R
  rw [h5]
  refine V_iload hL.C0 1 rfl dL_law_274 ?_
  refine V_icmp_eq hL.C0 (tgt := 281) (by decide) dL_law_276 (fun _ => ?_) (fun h => absurd rfl h)
  refine V_iload hL.C0 1 rfl dL_law_281 ?_
  refine V_if_ne hL.C0 (tgt := 298) (by decide) dL_law_283 (fun _ => ?_) (fun hk => ?_)
  · exact V_goto hL.C0 (tgt := 921) (by decide) dL_law_298 (law_next7 hL kk)
  · refine V_aload_n hL.C0 3 rfl rfl dL_law_286 ?_
    refine V_iconst hL.C0 (v := (0 : Int32)) (by decide) dL_law_287 ?_
    refine V_lald hL.C0 (by decide) (by decide) in57 dL_law_288 ?_
    rw [show L 57 (ix (0 : Int32)) = L 57 0 from rfl, h0 hk]
    refine V_iload hL.C0 0 rfl dL_law_289 ?_
    refine V_i2l hL.C0 dL_law_291 (V_lcmp hL.C0 dL_law_292 ?_)
    rw [lg_self]
    exact V_if_eq hL.C0 (tgt := 298) (by decide) dL_law_293 (fun _ => V_goto hL.C0 (tgt := 921) (by decide) dL_law_298 (law_next7 hL kk)) (fun h => absurd rfl h)
set_option maxRecDepth 100000 in
theorem head_plan {f : State → Prop} {b Ls : Nat} {xs : Nat → Int32} {G : Gm} {r j : Nat} (hL : LG f b Ls xs G (r + 1)) (hj : 6 * j + 6 ≤ Ls) {nc ns : Nat} (hnc : nc ≤ 1) (hns : ns ≤ 6) {I I1 : MI} {L L1 : ML} {R R1 : MR} {k : Int32} (hM : CnH G.l G.D G.cA G.ad G.bs G.X yL_plan cL_plan 4 hh_plan 11 243 nc ns [.ref (G.ad 0), .int (xs (6 * j + 1)), .ref (G.ad 57)] I L R (some (.int k), I1, L1, R1)) (kk : ∀ G9 : Gm, G9.ad = G.ad → LG f b Ls xs G9 r → V G9 f 256 (lvL G9 b j) [.int k] I1 L1 R1) : V G f 245 (lvL G b j) [] I L R := by
  refine V_aload_n hL.C0 3 rfl rfl dL_law_245 ?_
  refine V_arg hL hj 1 4 0 (by decide) rfl rfl (by decide) rfl rfl rfl rfl rfl dL_law_246 dL_law_247 dL_law_249 dL_law_250 dL_law_251 ?_
  refine V_aload_n hL.C0 1 rfl rfl dL_law_252 ?_
  refine V_callSH hL.C0 (st := []) (As := [.ref (G.ad 0), .int (xs (6 * j + 1)), .ref (G.ad 57)]) hM lh_plan rfl (hL.room (by decide) (by decide)) ⟨Nat.le_trans hnc (Nat.le_trans (Nat.le_add_left 1 r) hL.2.2.2.1.2.2.1), Nat.le_trans hns (Nat.le_trans (by omega) hL.2.2.2.1.2.2.2)⟩ (Nat.le_of_ble_eq_true rfl) dL_law_253 ?_
  refine VH_re hL.C0 hL.2.1 (Nat.le_trans hnc (Nat.le_trans (Nat.le_add_left 1 r) hL.2.2.2.1.2.2.1)) (Nat.le_trans hns (Nat.le_trans (by omega) hL.2.2.2.1.2.2.2)) (fun s' C1 hE => ?_)
  exact kk (reB G s' nc ns) rfl (hL.re hnc hns C1 hE)
set_option maxRecDepth 100000 in
theorem law_fault {f : State → Prop} {b Ls : Nat} {xs : Nat → Int32} {G : Gm} {r j : Nat} (hL : LG f b Ls xs G r) (hj : 6 * j + 6 ≤ Ls) {I I2 : MI} {L : ML} {R : MR} {v : Int32} (h1 : F_X11_fault 0 (xs (6 * j + 1)) I L R = some v) (h2 : F_X12_fault 24 (xs (6 * j + 1)) I L R = some (v, I2)) (kk : V G f 23 (lvL G b (j + 1)) [] I2 L R) : V G f 301 (lvL G b j) [] I L R := by
  refine V_aload_n hL.C0 3 rfl rfl dL_law_301 ?_
  refine V_arg hL hj 1 4 0 (by decide) rfl rfl (by decide) rfl rfl rfl rfl rfl dL_law_302 dL_law_303 dL_law_305 dL_law_306 dL_law_307 ?_
  refine V_callV hL.C0 (st := []) (As := [.int (xs (6 * j + 1))]) 10 (c_X11_fault G.l G.D G.cA G.ad G.bs G.X hL.C0.2.2.2.2.2.2.2.2.2.1 hL.C0.2.2.2.2.2.2.2.2.2.2.2.2 0 (xs (6 * j + 1)) I L R v h1) lc_X11_fault lk_L_69 (by decide) (by decide) ⟨_, rfl, rfl⟩ rfl (hL.room (by decide) (by decide)) (Nat.le_of_ble_eq_true rfl) dL_law_308 ?_
  show V G f 311 (lvL G b j) [.int v] I L R
  refine V_aload_n hL.C0 2 rfl rfl dL_law_311 ?_
  refine V_arg hL hj 1 4 0 (by decide) rfl rfl (by decide) rfl rfl rfl rfl rfl dL_law_312 dL_law_313 dL_law_315 dL_law_316 dL_law_317 ?_
  refine V_callV hL.C0 (st := [.int v]) (As := [.int (xs (6 * j + 1))]) 11 (c_X12_fault G.l G.D G.cA G.ad G.bs G.X hL.C0.2.2.2.2.2.2.2.2.2.1 hL.C0.2.2.2.2.2.2.2.2.2.2.2.2 24 (xs (6 * j + 1)) I L R v I2 h2) lc_X12_fault lk_L_72 (by decide) (by decide) ⟨_, rfl, rfl⟩ rfl (hL.room (by decide) (by decide)) (Nat.le_of_ble_eq_true rfl) dL_law_318 ?_
  show V G f 321 (lvL G b j) [.int v, .int v] I2 L R
  exact V_icmp_eq hL.C0 (tgt := 921) (by decide) dL_law_321 (fun _ => law_next hL kk) (fun h => absurd rfl h)
set_option maxRecDepth 100000 in
theorem tail_run {f : State → Prop} {b Ls : Nat} {xs : Nat → Int32} {G : Gm} {r j : Nat} (hL : LG f b Ls xs G r) (hj : 6 * j + 6 ≤ Ls) {I I2 : MI} {L : ML} {R : MR} {v : Int32} {k : Int32} (h2 : F_X12_run 5000 24 (xs (6 * j + 1)) I L R = some (v, I2)) (h5 : I2 24 5 = k) (h0 : k = 0 → L 57 0 = v.toInt64) (kk : V G f 23 (lvL G b (j + 1)) [] I2 L R) : V G f 337 (lvL G b j) [.int k] I L R := by
  refine V_istore hL.C0 ((5, .int k) :: lvL G b j) (by rw [hL.2.2.1]; decide) rfl dL_law_337 ?_
  refine V_aload_n hL.C0 3 rfl rfl dL_law_339 ?_
  refine V_arg hL hj 1 5 1 (by decide) rfl rfl (by decide) rfl rfl rfl rfl rfl dL_law_340 dL_law_341 dL_law_343 dL_law_344 dL_law_345 ?_
  refine V_callV hL.C0 (st := []) (As := [.int (xs (6 * j + 1))]) 11 (c_X12_run G.l G.D G.cA G.ad G.bs G.X hL.C0.2.2.2.2.2.2.2.2.2.1 hL.C0.2.2.2.2.2.2.2.2.2.2.2.2 5000 24 (xs (6 * j + 1)) I L R v I2 h2) lc_X12_run lk_L_75 (by decide) (by decide) ⟨_, rfl, rfl⟩ rfl (hL.room (by decide) (by decide)) (Nat.le_of_ble_eq_true rfl) dL_law_346 ?_
  show V G f 349 ((5, .int k) :: lvL G b j) [.int v] I2 L R
  refine V_istore hL.C0 ((6, .int v) :: (5, .int k) :: lvL G b j) (by rw [hL.2.2.1]; decide) rfl dL_law_349 ?_
  refine V_aload_n hL.C0 4 rfl rfl dL_law_351 ?_
  refine V_callV hL.C0 (st := []) (As := []) 11 (c_X12_thrown G.l G.D G.cA G.ad G.bs G.X hL.C0.2.2.2.2.2.2.2.2.2.1 hL.C0.2.2.2.2.2.2.2.2.2.2.2.2 24 I2 L R (I2 24 5) thrown_eq) lc_X12_thrown lk_L_62 (by decide) (by decide) ⟨_, rfl, rfl⟩ rfl (hL.room (by decide) (by decide)) (Nat.le_of_ble_eq_true rfl) dL_law_352 ?_
  show V G f 355 ((6, .int v) :: (5, .int k) :: lvL G b j) [.int (I2 24 5)] I2 L R
  rw [h5]
  refine V_iload hL.C0 1 rfl dL_law_355 ?_
  refine V_icmp_eq hL.C0 (tgt := 362) (by decide) dL_law_357 (fun _ => ?_) (fun h => absurd rfl h)
  refine V_iload hL.C0 1 rfl dL_law_362 ?_
  refine V_if_ne hL.C0 (tgt := 379) (by decide) dL_law_364 (fun _ => ?_) (fun hk => ?_)
  · exact V_goto hL.C0 (tgt := 921) (by decide) dL_law_379 (law_next7 hL kk)
  · refine V_aload_n hL.C0 3 rfl rfl dL_law_367 ?_
    refine V_iconst hL.C0 (v := (0 : Int32)) (by decide) dL_law_368 ?_
    refine V_lald hL.C0 (by decide) (by decide) in57 dL_law_369 ?_
    rw [show L 57 (ix (0 : Int32)) = L 57 0 from rfl, h0 hk]
    refine V_iload hL.C0 0 rfl dL_law_370 ?_
    refine V_i2l hL.C0 dL_law_372 (V_lcmp hL.C0 dL_law_373 ?_)
    rw [lg_self]
    exact V_if_eq hL.C0 (tgt := 379) (by decide) dL_law_374 (fun _ => V_goto hL.C0 (tgt := 921) (by decide) dL_law_379 (law_next7 hL kk)) (fun h => absurd rfl h)
set_option maxRecDepth 100000 in
theorem head_run {f : State → Prop} {b Ls : Nat} {xs : Nat → Int32} {G : Gm} {r j : Nat} (hL : LG f b Ls xs G (r + 1)) (hj : 6 * j + 6 ≤ Ls) {nc ns : Nat} (hnc : nc ≤ 1) (hns : ns ≤ 6) {I I1 : MI} {L L1 : ML} {R R1 : MR} {k : Int32} (hM : CnH G.l G.D G.cA G.ad G.bs G.X yL_run cL_run 4 hh_run 8 182 nc ns [.ref (G.ad 0), .int (xs (6 * j + 1)), .ref (G.ad 57)] I L R (some (.int k), I1, L1, R1)) (kk : ∀ G9 : Gm, G9.ad = G.ad → LG f b Ls xs G9 r → V G9 f 337 (lvL G9 b j) [.int k] I1 L1 R1) : V G f 326 (lvL G b j) [] I L R := by
  refine V_aload_n hL.C0 3 rfl rfl dL_law_326 ?_
  refine V_arg hL hj 1 4 0 (by decide) rfl rfl (by decide) rfl rfl rfl rfl rfl dL_law_327 dL_law_328 dL_law_330 dL_law_331 dL_law_332 ?_
  refine V_aload_n hL.C0 1 rfl rfl dL_law_333 ?_
  refine V_callSH hL.C0 (st := []) (As := [.ref (G.ad 0), .int (xs (6 * j + 1)), .ref (G.ad 57)]) hM lh_run rfl (hL.room (by decide) (by decide)) ⟨Nat.le_trans hnc (Nat.le_trans (Nat.le_add_left 1 r) hL.2.2.2.1.2.2.1), Nat.le_trans hns (Nat.le_trans (by omega) hL.2.2.2.1.2.2.2)⟩ (Nat.le_of_ble_eq_true rfl) dL_law_334 ?_
  refine VH_re hL.C0 hL.2.1 (Nat.le_trans hnc (Nat.le_trans (Nat.le_add_left 1 r) hL.2.2.2.1.2.2.1)) (Nat.le_trans hns (Nat.le_trans (by omega) hL.2.2.2.1.2.2.2)) (fun s' C1 hE => ?_)
  exact kk (reB G s' nc ns) rfl (hL.re hnc hns C1 hE)
set_option maxRecDepth 100000 in
theorem tail_command {f : State → Prop} {b Ls : Nat} {xs : Nat → Int32} {G : Gm} {r j : Nat} (hL : LG f b Ls xs G r) (hj : 6 * j + 6 ≤ Ls) {I I2 : MI} {L : ML} {R : MR} {v : Bool} {k : Int32} (h2 : F_X12_command 5000 24 (xs (6 * j + 1)) (xs (6 * j + 2)) (xs (6 * j + 3)) I L R = some (v, I2)) (h5 : I2 24 5 = k) (h0 : k = 0 → L 57 0 = b2l v) (kk : V G f 23 (lvL G b (j + 1)) [] I2 L R) : V G f 405 (lvL G b j) [.int k] I L R := by
  refine V_istore hL.C0 ((5, .int k) :: lvL G b j) (by rw [hL.2.2.1]; decide) rfl dL_law_405 ?_
  refine V_aload_n hL.C0 3 rfl rfl dL_law_407 ?_
  refine V_arg hL hj 1 5 1 (by decide) rfl rfl (by decide) rfl rfl rfl rfl rfl dL_law_408 dL_law_409 dL_law_411 dL_law_412 dL_law_413 ?_
  refine V_arg hL hj 2 5 1 (by decide) rfl rfl (by decide) rfl rfl rfl rfl rfl dL_law_414 dL_law_415 dL_law_417 dL_law_418 dL_law_419 ?_
  refine V_arg hL hj 3 5 1 (by decide) rfl rfl (by decide) rfl rfl rfl rfl rfl dL_law_420 dL_law_421 dL_law_423 dL_law_424 dL_law_425 ?_
  refine V_callV hL.C0 (st := []) (As := [.int (xs (6 * j + 1)), .int (xs (6 * j + 2)), .int (xs (6 * j + 3))]) 11 (c_X12_command G.l G.D G.cA G.ad G.bs G.X hL.C0.2.2.2.2.2.2.2.2.2.1 hL.C0.2.2.2.2.2.2.2.2.2.2.2.2 5000 24 (xs (6 * j + 1)) (xs (6 * j + 2)) (xs (6 * j + 3)) I L R v I2 h2) lc_X12_command lk_L_79 (by decide) (by decide) ⟨_, rfl, rfl⟩ rfl (hL.room (by decide) (by decide)) (Nat.le_of_ble_eq_true rfl) dL_law_426 ?_
  show V G f 429 ((5, .int k) :: lvL G b j) [.int (b2i v)] I2 L R
  refine V_istore hL.C0 ((6, .int (b2i v)) :: (5, .int k) :: lvL G b j) (by rw [hL.2.2.1]; decide) rfl dL_law_429 ?_
  refine V_aload_n hL.C0 4 rfl rfl dL_law_431 ?_
  refine V_callV hL.C0 (st := []) (As := []) 11 (c_X12_thrown G.l G.D G.cA G.ad G.bs G.X hL.C0.2.2.2.2.2.2.2.2.2.1 hL.C0.2.2.2.2.2.2.2.2.2.2.2.2 24 I2 L R (I2 24 5) thrown_eq) lc_X12_thrown lk_L_62 (by decide) (by decide) ⟨_, rfl, rfl⟩ rfl (hL.room (by decide) (by decide)) (Nat.le_of_ble_eq_true rfl) dL_law_432 ?_
  show V G f 435 ((6, .int (b2i v)) :: (5, .int k) :: lvL G b j) [.int (I2 24 5)] I2 L R
  rw [h5]
  refine V_iload hL.C0 1 rfl dL_law_435 ?_
  refine V_icmp_eq hL.C0 (tgt := 442) (by decide) dL_law_437 (fun _ => ?_) (fun h => absurd rfl h)
  refine V_iload hL.C0 1 rfl dL_law_442 ?_
  refine V_if_ne hL.C0 (tgt := 466) (by decide) dL_law_444 (fun _ => ?_) (fun hk => ?_)
  · exact V_goto hL.C0 (tgt := 921) (by decide) dL_law_466 (law_next7 hL kk)
  · refine V_aload_n hL.C0 3 rfl rfl dL_law_447 ?_
    refine V_iconst hL.C0 (v := (0 : Int32)) (by decide) dL_law_448 ?_
    refine V_lald hL.C0 (by decide) (by decide) in57 dL_law_449 ?_
    rw [show L 57 (ix (0 : Int32)) = L 57 0 from rfl, h0 hk]
    refine V_iload hL.C0 0 rfl dL_law_450 ?_
    refine V_if_eq hL.C0 (tgt := 459) (by decide) dL_law_452 (fun c9 => ?_) (fun c9 => ?_)
    · have e9 : b2l v = (0 : Int64) := by cases v <;> simp_all [b2l, b2i]
      rw [e9]
      refine V_lconst hL.C0 (v := (0 : Int64)) (by decide) dL_law_459 ?_
      refine V_lcmp hL.C0 dL_law_460 ?_
      rw [lg_self]
      exact V_if_eq hL.C0 (tgt := 466) (by decide) dL_law_461 (fun _ => V_goto hL.C0 (tgt := 921) (by decide) dL_law_466 (law_next7 hL kk)) (fun h => absurd rfl h)
    · have e9 : b2l v = (1 : Int64) := by cases v <;> simp_all [b2l, b2i]
      rw [e9]
      refine V_lconst hL.C0 (v := (1 : Int64)) (by decide) dL_law_455 (V_goto hL.C0 (tgt := 460) (by decide) dL_law_456 ?_)
      refine V_lcmp hL.C0 dL_law_460 ?_
      rw [lg_self]
      exact V_if_eq hL.C0 (tgt := 466) (by decide) dL_law_461 (fun _ => V_goto hL.C0 (tgt := 921) (by decide) dL_law_466 (law_next7 hL kk)) (fun h => absurd rfl h)
set_option maxRecDepth 100000 in
theorem head_command {f : State → Prop} {b Ls : Nat} {xs : Nat → Int32} {G : Gm} {r j : Nat} (hL : LG f b Ls xs G (r + 1)) (hj : 6 * j + 6 ≤ Ls) {nc ns : Nat} (hnc : nc ≤ 1) (hns : ns ≤ 6) {I I1 : MI} {L L1 : ML} {R R1 : MR} {k : Int32} (hM : CnH G.l G.D G.cA G.ad G.bs G.X yL_command cL_command 6 hh_command 7 137 nc ns [.ref (G.ad 0), .int (xs (6 * j + 1)), .int (xs (6 * j + 2)), .int (xs (6 * j + 3)), .ref (G.ad 57)] I L R (some (.int k), I1, L1, R1)) (kk : ∀ G9 : Gm, G9.ad = G.ad → LG f b Ls xs G9 r → V G9 f 405 (lvL G9 b j) [.int k] I1 L1 R1) : V G f 382 (lvL G b j) [] I L R := by
  refine V_aload_n hL.C0 3 rfl rfl dL_law_382 ?_
  refine V_arg hL hj 1 4 0 (by decide) rfl rfl (by decide) rfl rfl rfl rfl rfl dL_law_383 dL_law_384 dL_law_386 dL_law_387 dL_law_388 ?_
  refine V_arg hL hj 2 4 0 (by decide) rfl rfl (by decide) rfl rfl rfl rfl rfl dL_law_389 dL_law_390 dL_law_392 dL_law_393 dL_law_394 ?_
  refine V_arg hL hj 3 4 0 (by decide) rfl rfl (by decide) rfl rfl rfl rfl rfl dL_law_395 dL_law_396 dL_law_398 dL_law_399 dL_law_400 ?_
  refine V_aload_n hL.C0 1 rfl rfl dL_law_401 ?_
  refine V_callSH hL.C0 (st := []) (As := [.ref (G.ad 0), .int (xs (6 * j + 1)), .int (xs (6 * j + 2)), .int (xs (6 * j + 3)), .ref (G.ad 57)]) hM lh_command rfl (hL.room (by decide) (by decide)) ⟨Nat.le_trans hnc (Nat.le_trans (Nat.le_add_left 1 r) hL.2.2.2.1.2.2.1), Nat.le_trans hns (Nat.le_trans (by omega) hL.2.2.2.1.2.2.2)⟩ (Nat.le_of_ble_eq_true rfl) dL_law_402 ?_
  refine VH_re hL.C0 hL.2.1 (Nat.le_trans hnc (Nat.le_trans (Nat.le_add_left 1 r) hL.2.2.2.1.2.2.1)) (Nat.le_trans hns (Nat.le_trans (by omega) hL.2.2.2.1.2.2.2)) (fun s' C1 hE => ?_)
  exact kk (reB G s' nc ns) rfl (hL.re hnc hns C1 hE)
set_option maxRecDepth 100000 in
theorem tail_part {f : State → Prop} {b Ls : Nat} {xs : Nat → Int32} {G : Gm} {r j : Nat} (hL : LG f b Ls xs G r) (hj : 6 * j + 6 ≤ Ls) {I I2 : MI} {L : ML} {R : MR} {v : Int32} {k : Int32} (h2 : F_X12_part 5000 24 (xs (6 * j + 1)) (xs (6 * j + 2)) I L R = some (v, I2)) (h5 : I2 24 5 = k) (h0 : k = 0 → L 57 0 = v.toInt64) (kk : V G f 23 (lvL G b (j + 1)) [] I2 L R) : V G f 486 (lvL G b j) [.int k] I L R := by
  refine V_istore hL.C0 ((5, .int k) :: lvL G b j) (by rw [hL.2.2.1]; decide) rfl dL_law_486 ?_
  refine V_aload_n hL.C0 3 rfl rfl dL_law_488 ?_
  refine V_arg hL hj 1 5 1 (by decide) rfl rfl (by decide) rfl rfl rfl rfl rfl dL_law_489 dL_law_490 dL_law_492 dL_law_493 dL_law_494 ?_
  refine V_arg hL hj 2 5 1 (by decide) rfl rfl (by decide) rfl rfl rfl rfl rfl dL_law_495 dL_law_496 dL_law_498 dL_law_499 dL_law_500 ?_
  refine V_callV hL.C0 (st := []) (As := [.int (xs (6 * j + 1)), .int (xs (6 * j + 2))]) 11 (c_X12_part G.l G.D G.cA G.ad G.bs G.X hL.C0.2.2.2.2.2.2.2.2.2.1 hL.C0.2.2.2.2.2.2.2.2.2.2.2.2 5000 24 (xs (6 * j + 1)) (xs (6 * j + 2)) I L R v I2 h2) lc_X12_part lk_L_83 (by decide) (by decide) ⟨_, rfl, rfl⟩ rfl (hL.room (by decide) (by decide)) (Nat.le_of_ble_eq_true rfl) dL_law_501 ?_
  show V G f 504 ((5, .int k) :: lvL G b j) [.int v] I2 L R
  refine V_istore hL.C0 ((6, .int v) :: (5, .int k) :: lvL G b j) (by rw [hL.2.2.1]; decide) rfl dL_law_504 ?_
  refine V_aload_n hL.C0 4 rfl rfl dL_law_506 ?_
  refine V_callV hL.C0 (st := []) (As := []) 11 (c_X12_thrown G.l G.D G.cA G.ad G.bs G.X hL.C0.2.2.2.2.2.2.2.2.2.1 hL.C0.2.2.2.2.2.2.2.2.2.2.2.2 24 I2 L R (I2 24 5) thrown_eq) lc_X12_thrown lk_L_62 (by decide) (by decide) ⟨_, rfl, rfl⟩ rfl (hL.room (by decide) (by decide)) (Nat.le_of_ble_eq_true rfl) dL_law_507 ?_
  show V G f 510 ((6, .int v) :: (5, .int k) :: lvL G b j) [.int (I2 24 5)] I2 L R
  rw [h5]
  refine V_iload hL.C0 1 rfl dL_law_510 ?_
  refine V_icmp_eq hL.C0 (tgt := 517) (by decide) dL_law_512 (fun _ => ?_) (fun h => absurd rfl h)
  refine V_iload hL.C0 1 rfl dL_law_517 ?_
  refine V_if_ne hL.C0 (tgt := 534) (by decide) dL_law_519 (fun _ => ?_) (fun hk => ?_)
  · exact V_goto hL.C0 (tgt := 921) (by decide) dL_law_534 (law_next7 hL kk)
  · refine V_aload_n hL.C0 3 rfl rfl dL_law_522 ?_
    refine V_iconst hL.C0 (v := (0 : Int32)) (by decide) dL_law_523 ?_
    refine V_lald hL.C0 (by decide) (by decide) in57 dL_law_524 ?_
    rw [show L 57 (ix (0 : Int32)) = L 57 0 from rfl, h0 hk]
    refine V_iload hL.C0 0 rfl dL_law_525 ?_
    refine V_i2l hL.C0 dL_law_527 (V_lcmp hL.C0 dL_law_528 ?_)
    rw [lg_self]
    exact V_if_eq hL.C0 (tgt := 534) (by decide) dL_law_529 (fun _ => V_goto hL.C0 (tgt := 921) (by decide) dL_law_534 (law_next7 hL kk)) (fun h => absurd rfl h)
set_option maxRecDepth 100000 in
theorem head_part {f : State → Prop} {b Ls : Nat} {xs : Nat → Int32} {G : Gm} {r j : Nat} (hL : LG f b Ls xs G (r + 1)) (hj : 6 * j + 6 ≤ Ls) {nc ns : Nat} (hnc : nc ≤ 1) (hns : ns ≤ 6) {I I1 : MI} {L L1 : ML} {R R1 : MR} {k : Int32} (hM : CnH G.l G.D G.cA G.ad G.bs G.X yL_part cL_part 5 hh_part 8 134 nc ns [.ref (G.ad 0), .int (xs (6 * j + 1)), .int (xs (6 * j + 2)), .ref (G.ad 57)] I L R (some (.int k), I1, L1, R1)) (kk : ∀ G9 : Gm, G9.ad = G.ad → LG f b Ls xs G9 r → V G9 f 486 (lvL G9 b j) [.int k] I1 L1 R1) : V G f 469 (lvL G b j) [] I L R := by
  refine V_aload_n hL.C0 3 rfl rfl dL_law_469 ?_
  refine V_arg hL hj 1 4 0 (by decide) rfl rfl (by decide) rfl rfl rfl rfl rfl dL_law_470 dL_law_471 dL_law_473 dL_law_474 dL_law_475 ?_
  refine V_arg hL hj 2 4 0 (by decide) rfl rfl (by decide) rfl rfl rfl rfl rfl dL_law_476 dL_law_477 dL_law_479 dL_law_480 dL_law_481 ?_
  refine V_aload_n hL.C0 1 rfl rfl dL_law_482 ?_
  refine V_callSH hL.C0 (st := []) (As := [.ref (G.ad 0), .int (xs (6 * j + 1)), .int (xs (6 * j + 2)), .ref (G.ad 57)]) hM lh_part rfl (hL.room (by decide) (by decide)) ⟨Nat.le_trans hnc (Nat.le_trans (Nat.le_add_left 1 r) hL.2.2.2.1.2.2.1), Nat.le_trans hns (Nat.le_trans (by omega) hL.2.2.2.1.2.2.2)⟩ (Nat.le_of_ble_eq_true rfl) dL_law_483 ?_
  refine VH_re hL.C0 hL.2.1 (Nat.le_trans hnc (Nat.le_trans (Nat.le_add_left 1 r) hL.2.2.2.1.2.2.1)) (Nat.le_trans hns (Nat.le_trans (by omega) hL.2.2.2.1.2.2.2)) (fun s' C1 hE => ?_)
  exact kk (reB G s' nc ns) rfl (hL.re hnc hns C1 hE)
set_option maxRecDepth 100000 in
theorem tail_ask {f : State → Prop} {b Ls : Nat} {xs : Nat → Int32} {G : Gm} {r j : Nat} (hL : LG f b Ls xs G r) (hj : 6 * j + 6 ≤ Ls) {I I2 : MI} {L : ML} {R : MR} {v : Int32} {k : Int32} (h2 : F_X12_ask 5000 24 (xs (6 * j + 1)) (xs (6 * j + 2)) I L R = some (v, I2)) (h5 : I2 24 5 = k) (h0 : k = 0 → L 57 0 = v.toInt64) (kk : V G f 23 (lvL G b (j + 1)) [] I2 L R) : V G f 554 (lvL G b j) [.int k] I L R := by
  refine V_istore hL.C0 ((5, .int k) :: lvL G b j) (by rw [hL.2.2.1]; decide) rfl dL_law_554 ?_
  refine V_aload_n hL.C0 3 rfl rfl dL_law_556 ?_
  refine V_arg hL hj 1 5 1 (by decide) rfl rfl (by decide) rfl rfl rfl rfl rfl dL_law_557 dL_law_558 dL_law_560 dL_law_561 dL_law_562 ?_
  refine V_arg hL hj 2 5 1 (by decide) rfl rfl (by decide) rfl rfl rfl rfl rfl dL_law_563 dL_law_564 dL_law_566 dL_law_567 dL_law_568 ?_
  refine V_callV hL.C0 (st := []) (As := [.int (xs (6 * j + 1)), .int (xs (6 * j + 2))]) 11 (c_X12_ask G.l G.D G.cA G.ad G.bs G.X hL.C0.2.2.2.2.2.2.2.2.2.1 hL.C0.2.2.2.2.2.2.2.2.2.2.2.2 5000 24 (xs (6 * j + 1)) (xs (6 * j + 2)) I L R v I2 h2) lc_X12_ask lk_L_86 (by decide) (by decide) ⟨_, rfl, rfl⟩ rfl (hL.room (by decide) (by decide)) (Nat.le_of_ble_eq_true rfl) dL_law_569 ?_
  show V G f 572 ((5, .int k) :: lvL G b j) [.int v] I2 L R
  refine V_istore hL.C0 ((6, .int v) :: (5, .int k) :: lvL G b j) (by rw [hL.2.2.1]; decide) rfl dL_law_572 ?_
  refine V_aload_n hL.C0 4 rfl rfl dL_law_574 ?_
  refine V_callV hL.C0 (st := []) (As := []) 11 (c_X12_thrown G.l G.D G.cA G.ad G.bs G.X hL.C0.2.2.2.2.2.2.2.2.2.1 hL.C0.2.2.2.2.2.2.2.2.2.2.2.2 24 I2 L R (I2 24 5) thrown_eq) lc_X12_thrown lk_L_62 (by decide) (by decide) ⟨_, rfl, rfl⟩ rfl (hL.room (by decide) (by decide)) (Nat.le_of_ble_eq_true rfl) dL_law_575 ?_
  show V G f 578 ((6, .int v) :: (5, .int k) :: lvL G b j) [.int (I2 24 5)] I2 L R
  rw [h5]
  refine V_iload hL.C0 1 rfl dL_law_578 ?_
  refine V_icmp_eq hL.C0 (tgt := 585) (by decide) dL_law_580 (fun _ => ?_) (fun h => absurd rfl h)
  refine V_iload hL.C0 1 rfl dL_law_585 ?_
  refine V_if_ne hL.C0 (tgt := 602) (by decide) dL_law_587 (fun _ => ?_) (fun hk => ?_)
  · exact V_goto hL.C0 (tgt := 921) (by decide) dL_law_602 (law_next7 hL kk)
  · refine V_aload_n hL.C0 3 rfl rfl dL_law_590 ?_
    refine V_iconst hL.C0 (v := (0 : Int32)) (by decide) dL_law_591 ?_
    refine V_lald hL.C0 (by decide) (by decide) in57 dL_law_592 ?_
    rw [show L 57 (ix (0 : Int32)) = L 57 0 from rfl, h0 hk]
    refine V_iload hL.C0 0 rfl dL_law_593 ?_
    refine V_i2l hL.C0 dL_law_595 (V_lcmp hL.C0 dL_law_596 ?_)
    rw [lg_self]
    exact V_if_eq hL.C0 (tgt := 602) (by decide) dL_law_597 (fun _ => V_goto hL.C0 (tgt := 921) (by decide) dL_law_602 (law_next7 hL kk)) (fun h => absurd rfl h)
set_option maxRecDepth 100000 in
theorem head_ask {f : State → Prop} {b Ls : Nat} {xs : Nat → Int32} {G : Gm} {r j : Nat} (hL : LG f b Ls xs G (r + 1)) (hj : 6 * j + 6 ≤ Ls) {nc ns : Nat} (hnc : nc ≤ 1) (hns : ns ≤ 6) {I I1 : MI} {L L1 : ML} {R R1 : MR} {k : Int32} (hM : CnH G.l G.D G.cA G.ad G.bs G.X yL_ask cL_ask 5 hh_ask 8 134 nc ns [.ref (G.ad 0), .int (xs (6 * j + 1)), .int (xs (6 * j + 2)), .ref (G.ad 57)] I L R (some (.int k), I1, L1, R1)) (kk : ∀ G9 : Gm, G9.ad = G.ad → LG f b Ls xs G9 r → V G9 f 554 (lvL G9 b j) [.int k] I1 L1 R1) : V G f 537 (lvL G b j) [] I L R := by
  refine V_aload_n hL.C0 3 rfl rfl dL_law_537 ?_
  refine V_arg hL hj 1 4 0 (by decide) rfl rfl (by decide) rfl rfl rfl rfl rfl dL_law_538 dL_law_539 dL_law_541 dL_law_542 dL_law_543 ?_
  refine V_arg hL hj 2 4 0 (by decide) rfl rfl (by decide) rfl rfl rfl rfl rfl dL_law_544 dL_law_545 dL_law_547 dL_law_548 dL_law_549 ?_
  refine V_aload_n hL.C0 1 rfl rfl dL_law_550 ?_
  refine V_callSH hL.C0 (st := []) (As := [.ref (G.ad 0), .int (xs (6 * j + 1)), .int (xs (6 * j + 2)), .ref (G.ad 57)]) hM lh_ask rfl (hL.room (by decide) (by decide)) ⟨Nat.le_trans hnc (Nat.le_trans (Nat.le_add_left 1 r) hL.2.2.2.1.2.2.1), Nat.le_trans hns (Nat.le_trans (by omega) hL.2.2.2.1.2.2.2)⟩ (Nat.le_of_ble_eq_true rfl) dL_law_551 ?_
  refine VH_re hL.C0 hL.2.1 (Nat.le_trans hnc (Nat.le_trans (Nat.le_add_left 1 r) hL.2.2.2.1.2.2.1)) (Nat.le_trans hns (Nat.le_trans (by omega) hL.2.2.2.1.2.2.2)) (fun s' C1 hE => ?_)
  exact kk (reB G s' nc ns) rfl (hL.re hnc hns C1 hE)
set_option maxRecDepth 100000 in
theorem tail_note {f : State → Prop} {b Ls : Nat} {xs : Nat → Int32} {G : Gm} {r j : Nat} (hL : LG f b Ls xs G r) (hj : 6 * j + 6 ≤ Ls) {I I2 : MI} {L : ML} {R : MR} {v : Int32} {k : Int32} (h2 : F_X12_note 24 (xs (6 * j + 1)) (xs (6 * j + 2)) I L R = some (v, I2)) (h5 : I2 24 5 = k) (h0 : k = 0 → L 57 0 = v.toInt64) (kk : V G f 23 (lvL G b (j + 1)) [] I2 L R) : V G f 622 (lvL G b j) [.int k] I L R := by
  refine V_istore hL.C0 ((5, .int k) :: lvL G b j) (by rw [hL.2.2.1]; decide) rfl dL_law_622 ?_
  refine V_aload_n hL.C0 3 rfl rfl dL_law_624 ?_
  refine V_arg hL hj 1 5 1 (by decide) rfl rfl (by decide) rfl rfl rfl rfl rfl dL_law_625 dL_law_626 dL_law_628 dL_law_629 dL_law_630 ?_
  refine V_arg hL hj 2 5 1 (by decide) rfl rfl (by decide) rfl rfl rfl rfl rfl dL_law_631 dL_law_632 dL_law_634 dL_law_635 dL_law_636 ?_
  refine V_callV hL.C0 (st := []) (As := [.int (xs (6 * j + 1)), .int (xs (6 * j + 2))]) 11 (c_X12_note G.l G.D G.cA G.ad G.bs G.X hL.C0.2.2.2.2.2.2.2.2.2.1 hL.C0.2.2.2.2.2.2.2.2.2.2.2.2 24 (xs (6 * j + 1)) (xs (6 * j + 2)) I L R v I2 h2) lc_X12_note lk_L_89 (by decide) (by decide) ⟨_, rfl, rfl⟩ rfl (hL.room (by decide) (by decide)) (Nat.le_of_ble_eq_true rfl) dL_law_637 ?_
  show V G f 640 ((5, .int k) :: lvL G b j) [.int v] I2 L R
  refine V_istore hL.C0 ((6, .int v) :: (5, .int k) :: lvL G b j) (by rw [hL.2.2.1]; decide) rfl dL_law_640 ?_
  refine V_aload_n hL.C0 4 rfl rfl dL_law_642 ?_
  refine V_callV hL.C0 (st := []) (As := []) 11 (c_X12_thrown G.l G.D G.cA G.ad G.bs G.X hL.C0.2.2.2.2.2.2.2.2.2.1 hL.C0.2.2.2.2.2.2.2.2.2.2.2.2 24 I2 L R (I2 24 5) thrown_eq) lc_X12_thrown lk_L_62 (by decide) (by decide) ⟨_, rfl, rfl⟩ rfl (hL.room (by decide) (by decide)) (Nat.le_of_ble_eq_true rfl) dL_law_643 ?_
  show V G f 646 ((6, .int v) :: (5, .int k) :: lvL G b j) [.int (I2 24 5)] I2 L R
  rw [h5]
  refine V_iload hL.C0 1 rfl dL_law_646 ?_
  refine V_icmp_eq hL.C0 (tgt := 653) (by decide) dL_law_648 (fun _ => ?_) (fun h => absurd rfl h)
  refine V_iload hL.C0 1 rfl dL_law_653 ?_
  refine V_if_ne hL.C0 (tgt := 670) (by decide) dL_law_655 (fun _ => ?_) (fun hk => ?_)
  · exact V_goto hL.C0 (tgt := 921) (by decide) dL_law_670 (law_next7 hL kk)
  · refine V_aload_n hL.C0 3 rfl rfl dL_law_658 ?_
    refine V_iconst hL.C0 (v := (0 : Int32)) (by decide) dL_law_659 ?_
    refine V_lald hL.C0 (by decide) (by decide) in57 dL_law_660 ?_
    rw [show L 57 (ix (0 : Int32)) = L 57 0 from rfl, h0 hk]
    refine V_iload hL.C0 0 rfl dL_law_661 ?_
    refine V_i2l hL.C0 dL_law_663 (V_lcmp hL.C0 dL_law_664 ?_)
    rw [lg_self]
    exact V_if_eq hL.C0 (tgt := 670) (by decide) dL_law_665 (fun _ => V_goto hL.C0 (tgt := 921) (by decide) dL_law_670 (law_next7 hL kk)) (fun h => absurd rfl h)
set_option maxRecDepth 100000 in
theorem head_note {f : State → Prop} {b Ls : Nat} {xs : Nat → Int32} {G : Gm} {r j : Nat} (hL : LG f b Ls xs G (r + 1)) (hj : 6 * j + 6 ≤ Ls) {nc ns : Nat} (hnc : nc ≤ 1) (hns : ns ≤ 6) {I I1 : MI} {L L1 : ML} {R R1 : MR} {k : Int32} (hM : CnH G.l G.D G.cA G.ad G.bs G.X yL_note cL_note 5 hh_note 7 112 nc ns [.ref (G.ad 0), .int (xs (6 * j + 1)), .int (xs (6 * j + 2)), .ref (G.ad 57)] I L R (some (.int k), I1, L1, R1)) (kk : ∀ G9 : Gm, G9.ad = G.ad → LG f b Ls xs G9 r → V G9 f 622 (lvL G9 b j) [.int k] I1 L1 R1) : V G f 605 (lvL G b j) [] I L R := by
  refine V_aload_n hL.C0 3 rfl rfl dL_law_605 ?_
  refine V_arg hL hj 1 4 0 (by decide) rfl rfl (by decide) rfl rfl rfl rfl rfl dL_law_606 dL_law_607 dL_law_609 dL_law_610 dL_law_611 ?_
  refine V_arg hL hj 2 4 0 (by decide) rfl rfl (by decide) rfl rfl rfl rfl rfl dL_law_612 dL_law_613 dL_law_615 dL_law_616 dL_law_617 ?_
  refine V_aload_n hL.C0 1 rfl rfl dL_law_618 ?_
  refine V_callSH hL.C0 (st := []) (As := [.ref (G.ad 0), .int (xs (6 * j + 1)), .int (xs (6 * j + 2)), .ref (G.ad 57)]) hM lh_note rfl (hL.room (by decide) (by decide)) ⟨Nat.le_trans hnc (Nat.le_trans (Nat.le_add_left 1 r) hL.2.2.2.1.2.2.1), Nat.le_trans hns (Nat.le_trans (by omega) hL.2.2.2.1.2.2.2)⟩ (Nat.le_of_ble_eq_true rfl) dL_law_619 ?_
  refine VH_re hL.C0 hL.2.1 (Nat.le_trans hnc (Nat.le_trans (Nat.le_add_left 1 r) hL.2.2.2.1.2.2.1)) (Nat.le_trans hns (Nat.le_trans (by omega) hL.2.2.2.1.2.2.2)) (fun s' C1 hE => ?_)
  exact kk (reB G s' nc ns) rfl (hL.re hnc hns C1 hE)
set_option maxRecDepth 100000 in
theorem law_at {f : State → Prop} {b Ls : Nat} {xs : Nat → Int32} {G : Gm} {r j : Nat} (hL : LG f b Ls xs G r) (hj : 6 * j + 6 ≤ Ls) {I I2 : MI} {L : ML} {R : MR} {v : Int32} (h1 : F_X11_at 5000 0 (xs (6 * j + 1)) I L R = some v) (h2 : F_X12_at 5000 24 (xs (6 * j + 1)) I L R = some (v, I2)) (kk : V G f 23 (lvL G b (j + 1)) [] I2 L R) : V G f 673 (lvL G b j) [] I L R := by
  refine V_aload_n hL.C0 3 rfl rfl dL_law_673 ?_
  refine V_arg hL hj 1 4 0 (by decide) rfl rfl (by decide) rfl rfl rfl rfl rfl dL_law_674 dL_law_675 dL_law_677 dL_law_678 dL_law_679 ?_
  refine V_callV hL.C0 (st := []) (As := [.int (xs (6 * j + 1))]) 10 (c_X11_at G.l G.D G.cA G.ad G.bs G.X hL.C0.2.2.2.2.2.2.2.2.2.1 hL.C0.2.2.2.2.2.2.2.2.2.2.2.2 5000 0 (xs (6 * j + 1)) I L R v h1) lc_X11_at lk_L_90 (by decide) (by decide) ⟨_, rfl, rfl⟩ rfl (hL.room (by decide) (by decide)) (Nat.le_of_ble_eq_true rfl) dL_law_680 ?_
  show V G f 683 (lvL G b j) [.int v] I L R
  refine V_aload_n hL.C0 2 rfl rfl dL_law_683 ?_
  refine V_arg hL hj 1 4 0 (by decide) rfl rfl (by decide) rfl rfl rfl rfl rfl dL_law_684 dL_law_685 dL_law_687 dL_law_688 dL_law_689 ?_
  refine V_callV hL.C0 (st := [.int v]) (As := [.int (xs (6 * j + 1))]) 11 (c_X12_at G.l G.D G.cA G.ad G.bs G.X hL.C0.2.2.2.2.2.2.2.2.2.1 hL.C0.2.2.2.2.2.2.2.2.2.2.2.2 5000 24 (xs (6 * j + 1)) I L R v I2 h2) lc_X12_at lk_L_93 (by decide) (by decide) ⟨_, rfl, rfl⟩ rfl (hL.room (by decide) (by decide)) (Nat.le_of_ble_eq_true rfl) dL_law_690 ?_
  show V G f 693 (lvL G b j) [.int v, .int v] I2 L R
  exact V_icmp_eq hL.C0 (tgt := 921) (by decide) dL_law_693 (fun _ => law_next hL kk) (fun h => absurd rfl h)
set_option maxRecDepth 100000 in
theorem tail_name {f : State → Prop} {b Ls : Nat} {xs : Nat → Int32} {G : Gm} {r j : Nat} (hL : LG f b Ls xs G r) (hj : 6 * j + 6 ≤ Ls) {I I2 : MI} {L : ML} {R : MR} {v : Int32} {k : Int32} (h2 : F_X12_name 24 (xs (6 * j + 1)) (xs (6 * j + 2)) I L R = some (v, I2)) (h5 : I2 24 5 = k) (h0 : k = 0 → L 57 0 = v.toInt64) (kk : V G f 23 (lvL G b (j + 1)) [] I2 L R) : V G f 715 (lvL G b j) [.int k] I L R := by
  refine V_istore hL.C0 ((5, .int k) :: lvL G b j) (by rw [hL.2.2.1]; decide) rfl dL_law_715 ?_
  refine V_aload_n hL.C0 3 rfl rfl dL_law_717 ?_
  refine V_arg hL hj 1 5 1 (by decide) rfl rfl (by decide) rfl rfl rfl rfl rfl dL_law_718 dL_law_719 dL_law_721 dL_law_722 dL_law_723 ?_
  refine V_arg hL hj 2 5 1 (by decide) rfl rfl (by decide) rfl rfl rfl rfl rfl dL_law_724 dL_law_725 dL_law_727 dL_law_728 dL_law_729 ?_
  refine V_callV hL.C0 (st := []) (As := [.int (xs (6 * j + 1)), .int (xs (6 * j + 2))]) 11 (c_X12_name G.l G.D G.cA G.ad G.bs G.X hL.C0.2.2.2.2.2.2.2.2.2.1 hL.C0.2.2.2.2.2.2.2.2.2.2.2.2 24 (xs (6 * j + 1)) (xs (6 * j + 2)) I L R v I2 h2) lc_X12_name lk_L_96 (by decide) (by decide) ⟨_, rfl, rfl⟩ rfl (hL.room (by decide) (by decide)) (Nat.le_of_ble_eq_true rfl) dL_law_730 ?_
  show V G f 733 ((5, .int k) :: lvL G b j) [.int v] I2 L R
  refine V_istore hL.C0 ((6, .int v) :: (5, .int k) :: lvL G b j) (by rw [hL.2.2.1]; decide) rfl dL_law_733 ?_
  refine V_aload_n hL.C0 4 rfl rfl dL_law_735 ?_
  refine V_callV hL.C0 (st := []) (As := []) 11 (c_X12_thrown G.l G.D G.cA G.ad G.bs G.X hL.C0.2.2.2.2.2.2.2.2.2.1 hL.C0.2.2.2.2.2.2.2.2.2.2.2.2 24 I2 L R (I2 24 5) thrown_eq) lc_X12_thrown lk_L_62 (by decide) (by decide) ⟨_, rfl, rfl⟩ rfl (hL.room (by decide) (by decide)) (Nat.le_of_ble_eq_true rfl) dL_law_736 ?_
  show V G f 739 ((6, .int v) :: (5, .int k) :: lvL G b j) [.int (I2 24 5)] I2 L R
  rw [h5]
  refine V_iload hL.C0 1 rfl dL_law_739 ?_
  refine V_icmp_eq hL.C0 (tgt := 746) (by decide) dL_law_741 (fun _ => ?_) (fun h => absurd rfl h)
  refine V_iload hL.C0 1 rfl dL_law_746 ?_
  refine V_if_ne hL.C0 (tgt := 763) (by decide) dL_law_748 (fun _ => ?_) (fun hk => ?_)
  · exact V_goto hL.C0 (tgt := 921) (by decide) dL_law_763 (law_next7 hL kk)
  · refine V_aload_n hL.C0 3 rfl rfl dL_law_751 ?_
    refine V_iconst hL.C0 (v := (0 : Int32)) (by decide) dL_law_752 ?_
    refine V_lald hL.C0 (by decide) (by decide) in57 dL_law_753 ?_
    rw [show L 57 (ix (0 : Int32)) = L 57 0 from rfl, h0 hk]
    refine V_iload hL.C0 0 rfl dL_law_754 ?_
    refine V_i2l hL.C0 dL_law_756 (V_lcmp hL.C0 dL_law_757 ?_)
    rw [lg_self]
    exact V_if_eq hL.C0 (tgt := 763) (by decide) dL_law_758 (fun _ => V_goto hL.C0 (tgt := 921) (by decide) dL_law_763 (law_next7 hL kk)) (fun h => absurd rfl h)
set_option maxRecDepth 100000 in
theorem head_name {f : State → Prop} {b Ls : Nat} {xs : Nat → Int32} {G : Gm} {r j : Nat} (hL : LG f b Ls xs G (r + 1)) (hj : 6 * j + 6 ≤ Ls) {nc ns : Nat} (hnc : nc ≤ 1) (hns : ns ≤ 6) {I I1 : MI} {L L1 : ML} {R R1 : MR} {k : Int32} (hM : CnH G.l G.D G.cA G.ad G.bs G.X yL_name cL_name 5 hh_name 8 134 nc ns [.ref (G.ad 0), .int (xs (6 * j + 1)), .int (xs (6 * j + 2)), .ref (G.ad 57)] I L R (some (.int k), I1, L1, R1)) (kk : ∀ G9 : Gm, G9.ad = G.ad → LG f b Ls xs G9 r → V G9 f 715 (lvL G9 b j) [.int k] I1 L1 R1) : V G f 698 (lvL G b j) [] I L R := by
  refine V_aload_n hL.C0 3 rfl rfl dL_law_698 ?_
  refine V_arg hL hj 1 4 0 (by decide) rfl rfl (by decide) rfl rfl rfl rfl rfl dL_law_699 dL_law_700 dL_law_702 dL_law_703 dL_law_704 ?_
  refine V_arg hL hj 2 4 0 (by decide) rfl rfl (by decide) rfl rfl rfl rfl rfl dL_law_705 dL_law_706 dL_law_708 dL_law_709 dL_law_710 ?_
  refine V_aload_n hL.C0 1 rfl rfl dL_law_711 ?_
  refine V_callSH hL.C0 (st := []) (As := [.ref (G.ad 0), .int (xs (6 * j + 1)), .int (xs (6 * j + 2)), .ref (G.ad 57)]) hM lh_name rfl (hL.room (by decide) (by decide)) ⟨Nat.le_trans hnc (Nat.le_trans (Nat.le_add_left 1 r) hL.2.2.2.1.2.2.1), Nat.le_trans hns (Nat.le_trans (by omega) hL.2.2.2.1.2.2.2)⟩ (Nat.le_of_ble_eq_true rfl) dL_law_712 ?_
  refine VH_re hL.C0 hL.2.1 (Nat.le_trans hnc (Nat.le_trans (Nat.le_add_left 1 r) hL.2.2.2.1.2.2.1)) (Nat.le_trans hns (Nat.le_trans (by omega) hL.2.2.2.1.2.2.2)) (fun s' C1 hE => ?_)
  exact kk (reB G s' nc ns) rfl (hL.re hnc hns C1 hE)
set_option maxRecDepth 100000 in
theorem tail_kept {f : State → Prop} {b Ls : Nat} {xs : Nat → Int32} {G : Gm} {r j : Nat} (hL : LG f b Ls xs G r) (hj : 6 * j + 6 ≤ Ls) {I I2 : MI} {L : ML} {R : MR} {v : Int32} {k : Int32} (h2 : F_X12_kept 5000 24 (xs (6 * j + 1)) (xs (6 * j + 2)) I L R = some (v, I2)) (h5 : I2 24 5 = k) (h0 : k = 0 → L 57 0 = v.toInt64) (kk : V G f 23 (lvL G b (j + 1)) [] I2 L R) : V G f 783 (lvL G b j) [.int k] I L R := by
  refine V_istore hL.C0 ((5, .int k) :: lvL G b j) (by rw [hL.2.2.1]; decide) rfl dL_law_783 ?_
  refine V_aload_n hL.C0 3 rfl rfl dL_law_785 ?_
  refine V_arg hL hj 1 5 1 (by decide) rfl rfl (by decide) rfl rfl rfl rfl rfl dL_law_786 dL_law_787 dL_law_789 dL_law_790 dL_law_791 ?_
  refine V_arg hL hj 2 5 1 (by decide) rfl rfl (by decide) rfl rfl rfl rfl rfl dL_law_792 dL_law_793 dL_law_795 dL_law_796 dL_law_797 ?_
  refine V_callV hL.C0 (st := []) (As := [.int (xs (6 * j + 1)), .int (xs (6 * j + 2))]) 11 (c_X12_kept G.l G.D G.cA G.ad G.bs G.X hL.C0.2.2.2.2.2.2.2.2.2.1 hL.C0.2.2.2.2.2.2.2.2.2.2.2.2 5000 24 (xs (6 * j + 1)) (xs (6 * j + 2)) I L R v I2 h2) lc_X12_kept lk_L_99 (by decide) (by decide) ⟨_, rfl, rfl⟩ rfl (hL.room (by decide) (by decide)) (Nat.le_of_ble_eq_true rfl) dL_law_798 ?_
  show V G f 801 ((5, .int k) :: lvL G b j) [.int v] I2 L R
  refine V_istore hL.C0 ((6, .int v) :: (5, .int k) :: lvL G b j) (by rw [hL.2.2.1]; decide) rfl dL_law_801 ?_
  refine V_aload_n hL.C0 4 rfl rfl dL_law_803 ?_
  refine V_callV hL.C0 (st := []) (As := []) 11 (c_X12_thrown G.l G.D G.cA G.ad G.bs G.X hL.C0.2.2.2.2.2.2.2.2.2.1 hL.C0.2.2.2.2.2.2.2.2.2.2.2.2 24 I2 L R (I2 24 5) thrown_eq) lc_X12_thrown lk_L_62 (by decide) (by decide) ⟨_, rfl, rfl⟩ rfl (hL.room (by decide) (by decide)) (Nat.le_of_ble_eq_true rfl) dL_law_804 ?_
  show V G f 807 ((6, .int v) :: (5, .int k) :: lvL G b j) [.int (I2 24 5)] I2 L R
  rw [h5]
  refine V_iload hL.C0 1 rfl dL_law_807 ?_
  refine V_icmp_eq hL.C0 (tgt := 814) (by decide) dL_law_809 (fun _ => ?_) (fun h => absurd rfl h)
  refine V_iload hL.C0 1 rfl dL_law_814 ?_
  refine V_if_ne hL.C0 (tgt := 831) (by decide) dL_law_816 (fun _ => ?_) (fun hk => ?_)
  · exact V_goto hL.C0 (tgt := 921) (by decide) dL_law_831 (law_next7 hL kk)
  · refine V_aload_n hL.C0 3 rfl rfl dL_law_819 ?_
    refine V_iconst hL.C0 (v := (0 : Int32)) (by decide) dL_law_820 ?_
    refine V_lald hL.C0 (by decide) (by decide) in57 dL_law_821 ?_
    rw [show L 57 (ix (0 : Int32)) = L 57 0 from rfl, h0 hk]
    refine V_iload hL.C0 0 rfl dL_law_822 ?_
    refine V_i2l hL.C0 dL_law_824 (V_lcmp hL.C0 dL_law_825 ?_)
    rw [lg_self]
    exact V_if_eq hL.C0 (tgt := 831) (by decide) dL_law_826 (fun _ => V_goto hL.C0 (tgt := 921) (by decide) dL_law_831 (law_next7 hL kk)) (fun h => absurd rfl h)
set_option maxRecDepth 100000 in
theorem head_kept {f : State → Prop} {b Ls : Nat} {xs : Nat → Int32} {G : Gm} {r j : Nat} (hL : LG f b Ls xs G (r + 1)) (hj : 6 * j + 6 ≤ Ls) {nc ns : Nat} (hnc : nc ≤ 1) (hns : ns ≤ 6) {I I1 : MI} {L L1 : ML} {R R1 : MR} {k : Int32} (hM : CnH G.l G.D G.cA G.ad G.bs G.X yL_kept cL_kept 5 hh_kept 8 134 nc ns [.ref (G.ad 0), .int (xs (6 * j + 1)), .int (xs (6 * j + 2)), .ref (G.ad 57)] I L R (some (.int k), I1, L1, R1)) (kk : ∀ G9 : Gm, G9.ad = G.ad → LG f b Ls xs G9 r → V G9 f 783 (lvL G9 b j) [.int k] I1 L1 R1) : V G f 766 (lvL G b j) [] I L R := by
  refine V_aload_n hL.C0 3 rfl rfl dL_law_766 ?_
  refine V_arg hL hj 1 4 0 (by decide) rfl rfl (by decide) rfl rfl rfl rfl rfl dL_law_767 dL_law_768 dL_law_770 dL_law_771 dL_law_772 ?_
  refine V_arg hL hj 2 4 0 (by decide) rfl rfl (by decide) rfl rfl rfl rfl rfl dL_law_773 dL_law_774 dL_law_776 dL_law_777 dL_law_778 ?_
  refine V_aload_n hL.C0 1 rfl rfl dL_law_779 ?_
  refine V_callSH hL.C0 (st := []) (As := [.ref (G.ad 0), .int (xs (6 * j + 1)), .int (xs (6 * j + 2)), .ref (G.ad 57)]) hM lh_kept rfl (hL.room (by decide) (by decide)) ⟨Nat.le_trans hnc (Nat.le_trans (Nat.le_add_left 1 r) hL.2.2.2.1.2.2.1), Nat.le_trans hns (Nat.le_trans (by omega) hL.2.2.2.1.2.2.2)⟩ (Nat.le_of_ble_eq_true rfl) dL_law_780 ?_
  refine VH_re hL.C0 hL.2.1 (Nat.le_trans hnc (Nat.le_trans (Nat.le_add_left 1 r) hL.2.2.2.1.2.2.1)) (Nat.le_trans hns (Nat.le_trans (by omega) hL.2.2.2.1.2.2.2)) (fun s' C1 hE => ?_)
  exact kk (reB G s' nc ns) rfl (hL.re hnc hns C1 hE)
set_option maxRecDepth 100000 in
theorem law_down {f : State → Prop} {b Ls : Nat} {xs : Nat → Int32} {G : Gm} {r j : Nat} (hL : LG f b Ls xs G r) (hj : 6 * j + 6 ≤ Ls) {I I2 : MI} {L : ML} {R : MR} {v : Int32} (h1 : F_X11_down 0 (xs (6 * j + 1)) I L R = some v) (h2 : F_X12_down 24 (xs (6 * j + 1)) I L R = some (v, I2)) (kk : V G f 23 (lvL G b (j + 1)) [] I2 L R) : V G f 834 (lvL G b j) [] I L R := by
  refine V_aload_n hL.C0 3 rfl rfl dL_law_834 ?_
  refine V_arg hL hj 1 4 0 (by decide) rfl rfl (by decide) rfl rfl rfl rfl rfl dL_law_835 dL_law_836 dL_law_838 dL_law_839 dL_law_840 ?_
  refine V_callV hL.C0 (st := []) (As := [.int (xs (6 * j + 1))]) 10 (c_X11_down G.l G.D G.cA G.ad G.bs G.X hL.C0.2.2.2.2.2.2.2.2.2.1 hL.C0.2.2.2.2.2.2.2.2.2.2.2.2 0 (xs (6 * j + 1)) I L R v h1) lc_X11_down lk_L_100 (by decide) (by decide) ⟨_, rfl, rfl⟩ rfl (hL.room (by decide) (by decide)) (Nat.le_of_ble_eq_true rfl) dL_law_841 ?_
  show V G f 844 (lvL G b j) [.int v] I L R
  refine V_aload_n hL.C0 2 rfl rfl dL_law_844 ?_
  refine V_arg hL hj 1 4 0 (by decide) rfl rfl (by decide) rfl rfl rfl rfl rfl dL_law_845 dL_law_846 dL_law_848 dL_law_849 dL_law_850 ?_
  refine V_callV hL.C0 (st := [.int v]) (As := [.int (xs (6 * j + 1))]) 11 (c_X12_down G.l G.D G.cA G.ad G.bs G.X hL.C0.2.2.2.2.2.2.2.2.2.1 hL.C0.2.2.2.2.2.2.2.2.2.2.2.2 24 (xs (6 * j + 1)) I L R v I2 h2) lc_X12_down lk_L_103 (by decide) (by decide) ⟨_, rfl, rfl⟩ rfl (hL.room (by decide) (by decide)) (Nat.le_of_ble_eq_true rfl) dL_law_851 ?_
  show V G f 854 (lvL G b j) [.int v, .int v] I2 L R
  exact V_icmp_eq hL.C0 (tgt := 921) (by decide) dL_law_854 (fun _ => law_next hL kk) (fun h => absurd rfl h)
set_option maxRecDepth 100000 in
theorem law_item {f : State → Prop} {b Ls : Nat} {xs : Nat → Int32} {G : Gm} {r j : Nat} (hL : LG f b Ls xs G r) (hj : 6 * j + 6 ≤ Ls) {I I2 : MI} {L : ML} {R : MR} {v : Int32} (h1 : F_X11_item 0 (xs (6 * j + 1)) (xs (6 * j + 2)) I L R = some v) (h2 : F_X12_item 24 (xs (6 * j + 1)) (xs (6 * j + 2)) I L R = some (v, I2)) (kk : V G f 23 (lvL G b (j + 1)) [] I2 L R) : V G f 859 (lvL G b j) [] I L R := by
  refine V_aload_n hL.C0 3 rfl rfl dL_law_859 ?_
  refine V_arg hL hj 1 4 0 (by decide) rfl rfl (by decide) rfl rfl rfl rfl rfl dL_law_860 dL_law_861 dL_law_863 dL_law_864 dL_law_865 ?_
  refine V_arg hL hj 2 4 0 (by decide) rfl rfl (by decide) rfl rfl rfl rfl rfl dL_law_866 dL_law_867 dL_law_869 dL_law_870 dL_law_871 ?_
  refine V_callV hL.C0 (st := []) (As := [.int (xs (6 * j + 1)), .int (xs (6 * j + 2))]) 10 (c_X11_item G.l G.D G.cA G.ad G.bs G.X hL.C0.2.2.2.2.2.2.2.2.2.1 hL.C0.2.2.2.2.2.2.2.2.2.2.2.2 0 (xs (6 * j + 1)) (xs (6 * j + 2)) I L R v h1) lc_X11_item lk_L_104 (by decide) (by decide) ⟨_, rfl, rfl⟩ rfl (hL.room (by decide) (by decide)) (Nat.le_of_ble_eq_true rfl) dL_law_872 ?_
  show V G f 875 (lvL G b j) [.int v] I L R
  refine V_aload_n hL.C0 2 rfl rfl dL_law_875 ?_
  refine V_arg hL hj 1 4 0 (by decide) rfl rfl (by decide) rfl rfl rfl rfl rfl dL_law_876 dL_law_877 dL_law_879 dL_law_880 dL_law_881 ?_
  refine V_arg hL hj 2 4 0 (by decide) rfl rfl (by decide) rfl rfl rfl rfl rfl dL_law_882 dL_law_883 dL_law_885 dL_law_886 dL_law_887 ?_
  refine V_callV hL.C0 (st := [.int v]) (As := [.int (xs (6 * j + 1)), .int (xs (6 * j + 2))]) 11 (c_X12_item G.l G.D G.cA G.ad G.bs G.X hL.C0.2.2.2.2.2.2.2.2.2.1 hL.C0.2.2.2.2.2.2.2.2.2.2.2.2 24 (xs (6 * j + 1)) (xs (6 * j + 2)) I L R v I2 h2) lc_X12_item lk_L_107 (by decide) (by decide) ⟨_, rfl, rfl⟩ rfl (hL.room (by decide) (by decide)) (Nat.le_of_ble_eq_true rfl) dL_law_888 ?_
  show V G f 891 (lvL G b j) [.int v, .int v] I2 L R
  exact V_icmp_eq hL.C0 (tgt := 921) (by decide) dL_law_891 (fun _ => law_next hL kk) (fun h => absurd rfl h)
set_option maxRecDepth 100000 in
theorem law_craft {f : State → Prop} {b Ls : Nat} {xs : Nat → Int32} {G : Gm} {r j : Nat} (hL : LG f b Ls xs G r) (hj : 6 * j + 6 ≤ Ls) {I I2 : MI} {L : ML} {R : MR} {v : Int32} (h1 : F_X11_craft 0 (xs (6 * j + 1)) I L R = some v) (h2 : F_X12_craft 24 (xs (6 * j + 1)) I L R = some (v, I2)) (kk : V G f 23 (lvL G b (j + 1)) [] I2 L R) : V G f 896 (lvL G b j) [] I L R := by
  refine V_aload_n hL.C0 3 rfl rfl dL_law_896 ?_
  refine V_arg hL hj 1 4 0 (by decide) rfl rfl (by decide) rfl rfl rfl rfl rfl dL_law_897 dL_law_898 dL_law_900 dL_law_901 dL_law_902 ?_
  refine V_callV hL.C0 (st := []) (As := [.int (xs (6 * j + 1))]) 10 (c_X11_craft G.l G.D G.cA G.ad G.bs G.X hL.C0.2.2.2.2.2.2.2.2.2.1 hL.C0.2.2.2.2.2.2.2.2.2.2.2.2 0 (xs (6 * j + 1)) I L R v h1) lc_X11_craft lk_L_108 (by decide) (by decide) ⟨_, rfl, rfl⟩ rfl (hL.room (by decide) (by decide)) (Nat.le_of_ble_eq_true rfl) dL_law_903 ?_
  show V G f 906 (lvL G b j) [.int v] I L R
  refine V_aload_n hL.C0 2 rfl rfl dL_law_906 ?_
  refine V_arg hL hj 1 4 0 (by decide) rfl rfl (by decide) rfl rfl rfl rfl rfl dL_law_907 dL_law_908 dL_law_910 dL_law_911 dL_law_912 ?_
  refine V_callV hL.C0 (st := [.int v]) (As := [.int (xs (6 * j + 1))]) 11 (c_X12_craft G.l G.D G.cA G.ad G.bs G.X hL.C0.2.2.2.2.2.2.2.2.2.1 hL.C0.2.2.2.2.2.2.2.2.2.2.2.2 24 (xs (6 * j + 1)) I L R v I2 h2) lc_X12_craft lk_L_111 (by decide) (by decide) ⟨_, rfl, rfl⟩ rfl (hL.room (by decide) (by decide)) (Nat.le_of_ble_eq_true rfl) dL_law_913 ?_
  show V G f 916 (lvL G b j) [.int v, .int v] I2 L R
  exact V_icmp_eq hL.C0 (tgt := 921) (by decide) dL_law_916 (fun _ => law_next hL kk) (fun h => absurd rfl h)
