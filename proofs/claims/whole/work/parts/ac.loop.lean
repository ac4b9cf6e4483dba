/-! The law's loop -/
theorem and15 (x : Int32) : ∃ q, q < 16 ∧ x &&& 15 = Int32.ofNat q := by
  refine ⟨(x &&& 15).toBitVec.toNat, ?_, ?_⟩
  · rw [Int32.toBitVec_and, BitVec.toNat_and]
    exact Nat.lt_of_le_of_lt Nat.and_le_right (by decide)
  · apply Int32.toBitVec_inj.mp
    simp
theorem lawC {Ls j : Nat} (h : Ls ≤ 3072) (hj : j ≤ 512) : (Int32.ofNat Ls - 6 < Int32.ofNat (6 * j)) ↔ Ls < 6 * j + 6 := by
  have h1 : (Int32.ofNat (6 * j)).toInt = 6 * j := by
    rw [Int32.toInt_ofNat_of_lt (by omega)]
    omega
  by_cases h6 : 6 ≤ Ls
  · have e : Int32.ofNat Ls - 6 = Int32.ofNat (Ls - 6) := (Int32.ofNat_sub Ls 6 h6).symm
    rw [e, Int32.lt_iff_toInt_lt, h1, Int32.toInt_ofNat_of_lt (by omega)]
    omega
  · have h2 : (Int32.ofNat Ls - 6).toInt < 0 := by
      have h3 : Ls = 0 ∨ Ls = 1 ∨ Ls = 2 ∨ Ls = 3 ∨ Ls = 4 ∨ Ls = 5 := by omega
      rcases h3 with rfl | rfl | rfl | rfl | rfl | rfl <;> decide
    rw [Int32.lt_iff_toInt_lt, h1]
    omega
set_option maxRecDepth 100000 in
set_option maxHeartbeats 4000000 in
theorem law_loop {f : State → Prop} {b Ls : Nat} {xs : Nat → Int32} : ∀ (r : Nat) (G : Gm) (j : Nat) (n : Nat) (cd : Nat → Nat) (pb t s0 B D : Nat) (I : MI) (L : ML), LG f b Ls xs G r → j ≤ 512 → Ls < 6 * (j + r) + 6 → RC n cd pb L t s0 B D I I → DN n L → t ≤ 1000 * j → B ≤ 21000 * j → D ≤ 820000 * j → V G f 23 (lvL G b j) [] I L (GRf pb) := by
  intro r
  induction r with
  | zero =>
    intro G j n cd pb t s0 B D I L hL hj5 hr h hdn ht hB hD
    refine V_iload hL.C0 0 rfl dL_law_23 (V_aload_n hL.C0 4 rfl rfl dL_law_25 (V_slen hL.C0 hL.sc.1 hL.sc.2.1 hL.sc.2.2 dL_law_26 (V_bipush hL.C0 (v := (6 : Int32)) (by decide) dL_law_27 (V_isub hL.C0 dL_law_29 (V_icmp_gt hL.C0 (tgt := 927) (by decide) dL_law_30 (fun _ => V_iconst hL.C0 (v := (1 : Int32)) (by decide) dL_law_927 (V_done hL.C0 hL.2.1 dL_law_928)) (fun hno => absurd ((lawC hL.ls hj5).mpr (by omega)) hno))))))
  | succ r ih =>
    intro G j n cd pb t s0 B D I L hL hj5 hr h hdn ht hB hD
    refine V_iload hL.C0 0 rfl dL_law_23 (V_aload_n hL.C0 4 rfl rfl dL_law_25 (V_slen hL.C0 hL.sc.1 hL.sc.2.1 hL.sc.2.2 dL_law_26 (V_bipush hL.C0 (v := (6 : Int32)) (by decide) dL_law_27 (V_isub hL.C0 dL_law_29 (V_icmp_gt hL.C0 (tgt := 927) (by decide) dL_law_30 (fun _ => V_iconst hL.C0 (v := (1 : Int32)) (by decide) dL_law_927 (V_done hL.C0 hL.2.1 dL_law_928)) (fun hno => ?_))))))
    have hj : 6 * j + 6 ≤ Ls := by
      by_cases q : Ls < 6 * j + 6
      · exact absurd ((lawC hL.ls hj5).mpr q) hno
      · omega
    have hls := hL.ls
    have hj6 : j + 1 ≤ 512 := by omega
    have hAd := hL.C0.2.2.2.2.2.2.2.2.2.1
    have hXb := hL.C0.2.2.2.2.2.2.2.2.2.2.2.2
    have hst := hL.2.2.2.2.1
    have hs := hL.2.2.2.2.2.1
    have ht9 := hL.2.2.2.2.2.2.1
    have hc := hL.2.2.2.2.2.2.2.1
    have hse := hL.2.2.2.2.2.2.2.2.1
    refine V_aload_n hL.C0 4 rfl rfl dL_law_33 (V_iload hL.C0 0 rfl dL_law_34 (V_sld hL.C0 hL.sc.1 hL.sc.2.1 hL.sc.2.2 (i_in (by omega) (by omega)) dL_law_36 (V_bipush hL.C0 (v := (15 : Int32)) (by decide) dL_law_37 (V_iand hL.C0 dL_law_39 ?_))))
    obtain ⟨q, hq, e⟩ := and15 (xs (Int32.ofNat (6 * j)).toNatClampNeg)
    rw [e]
    have hq16 : q = 0 ∨ q = 1 ∨ q = 2 ∨ q = 3 ∨ q = 4 ∨ q = 5 ∨ q = 6 ∨ q = 7 ∨ q = 8 ∨ q = 9 ∨ q = 10 ∨ q = 11 ∨ q = 12 ∨ q = 13 ∨ q = 14 ∨ q = 15 := by omega
    rcases hq16 with rfl | rfl | rfl | rfl | rfl | rfl | rfl | rfl | rfl | rfl | rfl | rfl | rfl | rfl | rfl | rfl
    · refine V_tableC hL.C0 (v := 0) (tgt := 116) rfl (by decide) (by decide) dL_law_40 ?_
      obtain ⟨v, I1, I2, e1, e2, e5⟩ := st_feed (N := 5000) (Nat.le_refl _) (xs (6 * j + 1)) (xs (6 * j + 2)) (xs (6 * j + 3)) (xs (6 * j + 4)) (xs (6 * j + 5)) h
      exact law_feed hL.less hj e1 e2 (ih G (j + 1) n cd pb t s0 B D I2 L hL.less hj6 (by omega) e5 hdn (by omega) (by omega) (by omega))
    · refine V_tableC hL.C0 (v := 1) (tgt := 189) rfl (by decide) (by decide) dL_law_40 ?_
      rcases st_load (N := 5000) (Nat.le_refl _) (xs (6 * j + 1)) h hdn with ⟨v, I1, L1, I2, n2, cd2, t2, s2, e1, e2, e3, e4, e5, e6⟩ | ⟨v, I2, e1, e2, e3, e5⟩
      · exact head_load hL hj (by decide) (by decide) (h_load_0 G.l G.D G.cA G.ad G.bs G.X hAd hXb hst hc hse hs ht9 5000 (xs (6 * j + 1)) I L (GRf pb) _ e1) (fun G9 _ hL9 => tail_load hL9 hj e2 e3 (fun _ => uL_same) (ih G9 (j + 1) n2 cd2 pb t2 s2 B D I2 _ hL9 hj6 (by omega) e5 e6 (by omega) (by omega) (by omega)))
      · exact head_load hL hj (by decide) (by decide) (h_load_1 G.l G.D G.cA G.ad G.bs G.X hAd hXb hst hc hse hs ht9 5000 (xs (6 * j + 1)) I L (GRf pb) e1) (fun G9 _ hL9 => tail_load hL9 hj e2 e3 (fun h9 => absurd h9 (by decide)) (ih G9 (j + 1) n cd pb t s0 B D I2 L hL9 hj6 (by omega) e5 hdn (by omega) (by omega) (by omega)))
    · refine V_tableC hL.C0 (v := 2) (tgt := 245) rfl (by decide) (by decide) dL_law_40 ?_
      rcases st_plan (N := 5000) (Nat.le_refl _) (xs (6 * j + 1)) h hdn with ⟨v, I1, L1, pb2, I2, e1, e2, e3, e5, e6⟩ | ⟨v, I2, e1, e2, e3, e5⟩
      · exact head_plan hL hj (by decide) (by decide) (h_plan_0 G.l G.D G.cA G.ad G.bs G.X hAd hXb hst hc hse ht9 5000 (xs (6 * j + 1)) I L (GRf pb) _ e1) (fun G9 _ hL9 => tail_plan hL9 hj e2 e3 (fun _ => uL_same) (ih G9 (j + 1) n cd pb2 t s0 B D I2 _ hL9 hj6 (by omega) e5 e6 (by omega) (by omega) (by omega)))
      · exact head_plan hL hj (by decide) (by decide) (h_plan_1 G.l G.D G.cA G.ad G.bs G.X hAd hXb hst hc hse ht9 5000 (xs (6 * j + 1)) I L (GRf pb) e1) (fun G9 _ hL9 => tail_plan hL9 hj e2 e3 (fun h9 => absurd h9 (by decide)) (ih G9 (j + 1) n cd pb t s0 B D I2 L hL9 hj6 (by omega) e5 hdn (by omega) (by omega) (by omega)))
    · refine V_tableC hL.C0 (v := 3) (tgt := 301) rfl (by decide) (by decide) dL_law_40 ?_
      obtain ⟨v, I2, e1, e2, e5⟩ := st_fault (xs (6 * j + 1)) h
      exact law_fault hL.less hj e1 e2 (ih G (j + 1) n cd pb t s0 B D I2 L hL.less hj6 (by omega) e5 hdn (by omega) (by omega) (by omega))
    · refine V_tableC hL.C0 (v := 4) (tgt := 326) rfl (by decide) (by decide) dL_law_40 ?_
      rcases st_run (N := 5000) (Nat.le_refl _) (xs (6 * j + 1)) (by omega) (by omega) (by omega) h hdn with ⟨v, I1, I2, t2, s2, e1, e2, e3, e4, e5, e6⟩ | ⟨E, k, v, I2, t2, s2, e1, em, e2, e3, e4, e5⟩
      · exact head_run hL hj (by decide) (by decide) (h_run_0 G.l G.D G.cA G.ad G.bs G.X hAd hXb hst hc hse hs 5000 (xs (6 * j + 1)) I L (GRf pb) _ e1) (fun G9 _ hL9 => tail_run hL9 hj e2 e3 (fun _ => uL_same) (ih G9 (j + 1) n cd pb t2 s2 (B + 21 * 1000) (D + 820 * 1000) I2 _ hL9 hj6 (by omega) e5 e6 (by omega) (by omega) (by omega)))
      · simp only [List.mem_cons, Prod.mk.injEq, List.not_mem_nil, or_false] at em
        rcases em with ⟨rfl, rfl⟩ | ⟨rfl, rfl⟩
        · exact head_run hL hj (by decide) (by decide) (h_run_1 G.l G.D G.cA G.ad G.bs G.X hAd hXb hst hc hse hs 5000 (xs (6 * j + 1)) I L (GRf pb) e1) (fun G9 _ hL9 => tail_run hL9 hj e2 e3 (fun h9 => absurd h9 (by decide)) (ih G9 (j + 1) n cd pb t2 s2 (B + 21 * 1000) (D + 820 * 1000) I2 _ hL9 hj6 (by omega) e5 hdn (by omega) (by omega) (by omega)))
        · exact head_run hL hj (by decide) (by decide) (h_run_2 G.l G.D G.cA G.ad G.bs G.X hAd hXb hst hc hse hs 5000 (xs (6 * j + 1)) I L (GRf pb) e1) (fun G9 _ hL9 => tail_run hL9 hj e2 e3 (fun h9 => absurd h9 (by decide)) (ih G9 (j + 1) n cd pb t2 s2 (B + 21 * 1000) (D + 820 * 1000) I2 _ hL9 hj6 (by omega) e5 hdn (by omega) (by omega) (by omega)))
    · refine V_tableC hL.C0 (v := 5) (tgt := 382) rfl (by decide) (by decide) dL_law_40 ?_
      rcases st_command (N := 5000) (Nat.le_refl _) (xs (6 * j + 1)) (xs (6 * j + 2)) (xs (6 * j + 3)) h hdn with ⟨v, I1, I2, e1, e2, e3, e5, e6⟩ | ⟨E, k, v, I2, e1, em, e2, e3, e5⟩
      · exact head_command hL hj (by decide) (by decide) (h_command_0 G.l G.D G.cA G.ad G.bs G.X hAd hXb hst hc hse 5000 (xs (6 * j + 1)) (xs (6 * j + 2)) (xs (6 * j + 3)) I L (GRf pb) _ e1) (fun G9 _ hL9 => tail_command hL9 hj e2 e3 (fun _ => uL_same) (ih G9 (j + 1) n cd pb t s0 B D I2 _ hL9 hj6 (by omega) e5 e6 (by omega) (by omega) (by omega)))
      · simp only [List.mem_cons, Prod.mk.injEq, List.not_mem_nil, or_false] at em
        rcases em with ⟨rfl, rfl⟩
        · exact head_command hL hj (by decide) (by decide) (h_command_1 G.l G.D G.cA G.ad G.bs G.X hAd hXb hst hc hse 5000 (xs (6 * j + 1)) (xs (6 * j + 2)) (xs (6 * j + 3)) I L (GRf pb) e1) (fun G9 _ hL9 => tail_command hL9 hj e2 e3 (fun h9 => absurd h9 (by decide)) (ih G9 (j + 1) n cd pb t s0 B D I2 _ hL9 hj6 (by omega) e5 hdn (by omega) (by omega) (by omega)))
    · refine V_tableC hL.C0 (v := 6) (tgt := 469) rfl (by decide) (by decide) dL_law_40 ?_
      rcases st_part (N := 5000) (Nat.le_refl _) (xs (6 * j + 1)) (xs (6 * j + 2)) h hdn with ⟨v, I2, e1, e2, e3, e5, e6⟩ | ⟨E, k, v, I2, e1, em, e2, e3, e5⟩
      · exact head_part hL hj (by decide) (by decide) (h_part_0 G.l G.D G.cA G.ad G.bs G.X hAd hXb hst hc hse hs (xs (6 * j + 1)) (xs (6 * j + 2)) I L (GRf pb) _ e1) (fun G9 _ hL9 => tail_part hL9 hj e2 e3 (fun _ => uL_same) (ih G9 (j + 1) n cd pb t s0 B D I2 _ hL9 hj6 (by omega) e5 e6 (by omega) (by omega) (by omega)))
      · simp only [List.mem_cons, Prod.mk.injEq, List.not_mem_nil, or_false] at em
        rcases em with ⟨rfl, rfl⟩ | ⟨rfl, rfl⟩
        · exact head_part hL hj (by decide) (by decide) (h_part_1 G.l G.D G.cA G.ad G.bs G.X hAd hXb hst hc hse hs (xs (6 * j + 1)) (xs (6 * j + 2)) I L (GRf pb) e1) (fun G9 _ hL9 => tail_part hL9 hj e2 e3 (fun h9 => absurd h9 (by decide)) (ih G9 (j + 1) n cd pb t s0 B D I2 _ hL9 hj6 (by omega) e5 hdn (by omega) (by omega) (by omega)))
        · exact head_part hL hj (by decide) (by decide) (h_part_2 G.l G.D G.cA G.ad G.bs G.X hAd hXb hst hc hse hs (xs (6 * j + 1)) (xs (6 * j + 2)) I L (GRf pb) e1) (fun G9 _ hL9 => tail_part hL9 hj e2 e3 (fun h9 => absurd h9 (by decide)) (ih G9 (j + 1) n cd pb t s0 B D I2 _ hL9 hj6 (by omega) e5 hdn (by omega) (by omega) (by omega)))
    · refine V_tableC hL.C0 (v := 7) (tgt := 537) rfl (by decide) (by decide) dL_law_40 ?_
      rcases st_ask (N := 5000) (Nat.le_refl _) (xs (6 * j + 1)) (xs (6 * j + 2)) h hdn with ⟨v, I2, e1, e2, e3, e5, e6⟩ | ⟨E, k, v, I2, e1, em, e2, e3, e5⟩
      · exact head_ask hL hj (by decide) (by decide) (h_ask_0 G.l G.D G.cA G.ad G.bs G.X hAd hXb hst hc hse 5000 (xs (6 * j + 1)) (xs (6 * j + 2)) I L (GRf pb) _ e1) (fun G9 _ hL9 => tail_ask hL9 hj e2 e3 (fun _ => uL_same) (ih G9 (j + 1) n cd pb t s0 B D I2 _ hL9 hj6 (by omega) e5 e6 (by omega) (by omega) (by omega)))
      · simp only [List.mem_cons, Prod.mk.injEq, List.not_mem_nil, or_false] at em
        rcases em with ⟨rfl, rfl⟩ | ⟨rfl, rfl⟩
        · exact head_ask hL hj (by decide) (by decide) (h_ask_1 G.l G.D G.cA G.ad G.bs G.X hAd hXb hst hc hse 5000 (xs (6 * j + 1)) (xs (6 * j + 2)) I L (GRf pb) e1) (fun G9 _ hL9 => tail_ask hL9 hj e2 e3 (fun h9 => absurd h9 (by decide)) (ih G9 (j + 1) n cd pb t s0 B D I2 _ hL9 hj6 (by omega) e5 hdn (by omega) (by omega) (by omega)))
        · exact head_ask hL hj (by decide) (by decide) (h_ask_2 G.l G.D G.cA G.ad G.bs G.X hAd hXb hst hc hse 5000 (xs (6 * j + 1)) (xs (6 * j + 2)) I L (GRf pb) e1) (fun G9 _ hL9 => tail_ask hL9 hj e2 e3 (fun h9 => absurd h9 (by decide)) (ih G9 (j + 1) n cd pb t s0 B D I2 _ hL9 hj6 (by omega) e5 hdn (by omega) (by omega) (by omega)))
    · refine V_tableC hL.C0 (v := 8) (tgt := 605) rfl (by decide) (by decide) dL_law_40 ?_
      rcases st_note (xs (6 * j + 1)) (xs (6 * j + 2)) h hdn with ⟨v, I2, e1, e2, e3, e5, e6⟩ | ⟨E, k, v, I2, e1, em, e2, e3, e5⟩
      · exact head_note hL hj (by decide) (by decide) (h_note_0 G.l G.D G.cA G.ad G.bs G.X hAd hXb hst hc hse (xs (6 * j + 1)) (xs (6 * j + 2)) I L (GRf pb) _ e1) (fun G9 _ hL9 => tail_note hL9 hj e2 e3 (fun _ => uL_same) (ih G9 (j + 1) n cd pb t s0 B D I2 _ hL9 hj6 (by omega) e5 e6 (by omega) (by omega) (by omega)))
      · simp only [List.mem_cons, Prod.mk.injEq, List.not_mem_nil, or_false] at em
        rcases em with ⟨rfl, rfl⟩
        · exact head_note hL hj (by decide) (by decide) (h_note_1 G.l G.D G.cA G.ad G.bs G.X hAd hXb hst hc hse (xs (6 * j + 1)) (xs (6 * j + 2)) I L (GRf pb) e1) (fun G9 _ hL9 => tail_note hL9 hj e2 e3 (fun h9 => absurd h9 (by decide)) (ih G9 (j + 1) n cd pb t s0 B D I2 _ hL9 hj6 (by omega) e5 hdn (by omega) (by omega) (by omega)))
    · refine V_tableC hL.C0 (v := 9) (tgt := 673) rfl (by decide) (by decide) dL_law_40 ?_
      obtain ⟨v, I2, e1, e2, e5⟩ := st_at (N := 5000) (Nat.le_refl _) (xs (6 * j + 1)) h
      exact law_at hL.less hj e1 e2 (ih G (j + 1) n cd pb t s0 B D I2 L hL.less hj6 (by omega) e5 hdn (by omega) (by omega) (by omega))
    · refine V_tableC hL.C0 (v := 10) (tgt := 698) rfl (by decide) (by decide) dL_law_40 ?_
      rcases st_name (xs (6 * j + 1)) (xs (6 * j + 2)) h hdn with ⟨v, I2, e1, e2, e3, e5, e6⟩ | ⟨E, k, v, I2, e1, em, e2, e3, e5⟩
      · exact head_name hL hj (by decide) (by decide) (h_name_0 G.l G.D G.cA G.ad G.bs G.X hAd hXb hst hc hse (xs (6 * j + 1)) (xs (6 * j + 2)) I L (GRf pb) _ e1) (fun G9 _ hL9 => tail_name hL9 hj e2 e3 (fun _ => uL_same) (ih G9 (j + 1) n cd pb t s0 B D I2 _ hL9 hj6 (by omega) e5 e6 (by omega) (by omega) (by omega)))
      · simp only [List.mem_cons, Prod.mk.injEq, List.not_mem_nil, or_false] at em
        rcases em with ⟨rfl, rfl⟩
        · exact head_name hL hj (by decide) (by decide) (h_name_1 G.l G.D G.cA G.ad G.bs G.X hAd hXb hst hc hse (xs (6 * j + 1)) (xs (6 * j + 2)) I L (GRf pb) e1) (fun G9 _ hL9 => tail_name hL9 hj e2 e3 (fun h9 => absurd h9 (by decide)) (ih G9 (j + 1) n cd pb t s0 B D I2 _ hL9 hj6 (by omega) e5 hdn (by omega) (by omega) (by omega)))
    · refine V_tableC hL.C0 (v := 11) (tgt := 766) rfl (by decide) (by decide) dL_law_40 ?_
      rcases st_kept (N := 5000) (Nat.le_refl _) (xs (6 * j + 1)) (xs (6 * j + 2)) h hdn with ⟨v, I2, e1, e2, e3, e5, e6⟩ | ⟨E, k, v, I2, e1, em, e2, e3, e5⟩
      · exact head_kept hL hj (by decide) (by decide) (h_kept_0 G.l G.D G.cA G.ad G.bs G.X hAd hXb hst hc hse (xs (6 * j + 1)) (xs (6 * j + 2)) I L (GRf pb) _ e1) (fun G9 _ hL9 => tail_kept hL9 hj e2 e3 (fun _ => uL_same) (ih G9 (j + 1) n cd pb t s0 B D I2 _ hL9 hj6 (by omega) e5 e6 (by omega) (by omega) (by omega)))
      · simp only [List.mem_cons, Prod.mk.injEq, List.not_mem_nil, or_false] at em
        rcases em with ⟨rfl, rfl⟩ | ⟨rfl, rfl⟩
        · exact head_kept hL hj (by decide) (by decide) (h_kept_1 G.l G.D G.cA G.ad G.bs G.X hAd hXb hst hc hse (xs (6 * j + 1)) (xs (6 * j + 2)) I L (GRf pb) e1) (fun G9 _ hL9 => tail_kept hL9 hj e2 e3 (fun h9 => absurd h9 (by decide)) (ih G9 (j + 1) n cd pb t s0 B D I2 _ hL9 hj6 (by omega) e5 hdn (by omega) (by omega) (by omega)))
        · exact head_kept hL hj (by decide) (by decide) (h_kept_2 G.l G.D G.cA G.ad G.bs G.X hAd hXb hst hc hse (xs (6 * j + 1)) (xs (6 * j + 2)) I L (GRf pb) e1) (fun G9 _ hL9 => tail_kept hL9 hj e2 e3 (fun h9 => absurd h9 (by decide)) (ih G9 (j + 1) n cd pb t s0 B D I2 _ hL9 hj6 (by omega) e5 hdn (by omega) (by omega) (by omega)))
    · refine V_tableC hL.C0 (v := 12) (tgt := 834) rfl (by decide) (by decide) dL_law_40 ?_
      obtain ⟨v, I2, e1, e2, e5⟩ := st_down (xs (6 * j + 1)) h
      exact law_down hL.less hj e1 e2 (ih G (j + 1) n cd pb t s0 B D I2 L hL.less hj6 (by omega) e5 hdn (by omega) (by omega) (by omega))
    · refine V_tableC hL.C0 (v := 13) (tgt := 859) rfl (by decide) (by decide) dL_law_40 ?_
      obtain ⟨v, I2, e1, e2, e5⟩ := st_item (xs (6 * j + 1)) (xs (6 * j + 2)) h
      exact law_item hL.less hj e1 e2 (ih G (j + 1) n cd pb t s0 B D I2 L hL.less hj6 (by omega) e5 hdn (by omega) (by omega) (by omega))
    · refine V_tableC hL.C0 (v := 14) (tgt := 896) rfl (by decide) (by decide) dL_law_40 ?_
      obtain ⟨v, I2, e1, e2, e5⟩ := st_craft (xs (6 * j + 1)) h
      exact law_craft hL.less hj e1 e2 (ih G (j + 1) n cd pb t s0 B D I2 L hL.less hj6 (by omega) e5 hdn (by omega) (by omega) (by omega))
    · refine V_tableOut hL.C0 (tgt := 921) (Or.inr (by decide)) (by decide) dL_law_40 ?_
      exact law_next hL.less (ih G (j + 1) n cd pb t s0 B D I L hL.less hj6 (by omega) h hdn (by omega) (by omega) (by omega))
