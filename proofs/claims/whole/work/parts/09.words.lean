theorem tb_1 : ∀ w ∈ tables_1_1, w ∈ lw_tbl := fun w h => List.mem_append_right _ (List.mem_append_left _ (h))
theorem tb_2 : ∀ w ∈ tables_1_2, w ∈ lw_tbl := fun w h => List.mem_append_right _ (List.mem_append_right _ (List.mem_append_left _ (h)))
theorem tb_3 : ∀ w ∈ tables_1_3, w ∈ lw_tbl := fun w h => List.mem_append_right _ (List.mem_append_right _ (List.mem_append_right _ (List.mem_append_left _ (h))))
theorem tb_4 : ∀ w ∈ tables_1_4, w ∈ lw_tbl := fun w h => List.mem_append_right _ (List.mem_append_right _ (List.mem_append_right _ (List.mem_append_right _ (List.mem_append_left _ (h)))))
theorem tb_5 : ∀ w ∈ tables_1_5, w ∈ lw_tbl := fun w h => List.mem_append_right _ (List.mem_append_right _ (List.mem_append_right _ (List.mem_append_right _ (List.mem_append_right _ (List.mem_append_left _ (h))))))
theorem tb_6 : ∀ w ∈ tables_1_6, w ∈ lw_tbl := fun w h => List.mem_append_right _ (List.mem_append_right _ (List.mem_append_right _ (List.mem_append_right _ (List.mem_append_right _ (List.mem_append_right _ (List.mem_append_left _ (h)))))))
theorem tb_7 : ∀ w ∈ tables_1_7, w ∈ lw_tbl := fun w h => List.mem_append_right _ (List.mem_append_right _ (List.mem_append_right _ (List.mem_append_right _ (List.mem_append_right _ (List.mem_append_right _ (List.mem_append_right _ (List.mem_append_left _ (h))))))))
theorem tb_8 : ∀ w ∈ tables_1_8, w ∈ lw_tbl := fun w h => List.mem_append_right _ (List.mem_append_right _ (List.mem_append_right _ (List.mem_append_right _ (List.mem_append_right _ (List.mem_append_right _ (List.mem_append_right _ (List.mem_append_right _ (List.mem_append_left _ (h)))))))))
theorem tb_9 : ∀ w ∈ tables_1_9, w ∈ lw_tbl := fun w h => List.mem_append_right _ (List.mem_append_right _ (List.mem_append_right _ (List.mem_append_right _ (List.mem_append_right _ (List.mem_append_right _ (List.mem_append_right _ (List.mem_append_right _ (List.mem_append_right _ (List.mem_append_left _ (h))))))))))
theorem tb_10 : ∀ w ∈ tables_1_10, w ∈ lw_tbl := fun w h => List.mem_append_right _ (List.mem_append_right _ (List.mem_append_right _ (List.mem_append_right _ (List.mem_append_right _ (List.mem_append_right _ (List.mem_append_right _ (List.mem_append_right _ (List.mem_append_right _ (List.mem_append_right _ (h))))))))))
theorem tp_1 : ∀ w ∈ k2_sels lw_privs_1, w ∈ lw_tbl := fun w h => List.mem_append_left _ (by rw [show k2_sels lw_privs = List.map (fun q => Cond.selects q.1.cls q.1 q.1) lw_privs from rfl]; unfold k2_sels at h; simp only [lw_privs, List.map_append, List.mem_append]; simp only [h, true_or, or_true])
theorem tp_2 : ∀ w ∈ k2_sels lw_privs_2, w ∈ lw_tbl := fun w h => List.mem_append_left _ (by rw [show k2_sels lw_privs = List.map (fun q => Cond.selects q.1.cls q.1 q.1) lw_privs from rfl]; unfold k2_sels at h; simp only [lw_privs, List.map_append, List.mem_append]; simp only [h, true_or, or_true])
theorem tp_3 : ∀ w ∈ k2_sels lw_privs_3, w ∈ lw_tbl := fun w h => List.mem_append_left _ (by rw [show k2_sels lw_privs = List.map (fun q => Cond.selects q.1.cls q.1 q.1) lw_privs from rfl]; unfold k2_sels at h; simp only [lw_privs, List.map_append, List.mem_append]; simp only [h, true_or, or_true])
theorem tp_4 : ∀ w ∈ k2_sels lw_privs_4, w ∈ lw_tbl := fun w h => List.mem_append_left _ (by rw [show k2_sels lw_privs = List.map (fun q => Cond.selects q.1.cls q.1 q.1) lw_privs from rfl]; unfold k2_sels at h; simp only [lw_privs, List.map_append, List.mem_append]; simp only [h, true_or, or_true])
theorem tp_5 : ∀ w ∈ k2_sels lw_privs_5, w ∈ lw_tbl := fun w h => List.mem_append_left _ (by rw [show k2_sels lw_privs = List.map (fun q => Cond.selects q.1.cls q.1 q.1) lw_privs from rfl]; unfold k2_sels at h; simp only [lw_privs, List.map_append, List.mem_append]; simp only [h, true_or, or_true])
theorem tp_6 : ∀ w ∈ k2_sels lw_privs_6, w ∈ lw_tbl := fun w h => List.mem_append_left _ (by rw [show k2_sels lw_privs = List.map (fun q => Cond.selects q.1.cls q.1 q.1) lw_privs from rfl]; unfold k2_sels at h; simp only [lw_privs, List.map_append, List.mem_append]; simp only [h, true_or, or_true])
theorem tp_7 : ∀ w ∈ k2_sels lw_privs_7, w ∈ lw_tbl := fun w h => List.mem_append_left _ (by rw [show k2_sels lw_privs = List.map (fun q => Cond.selects q.1.cls q.1 q.1) lw_privs from rfl]; unfold k2_sels at h; simp only [lw_privs, List.map_append, List.mem_append]; simp only [h, true_or, or_true])
theorem tp_8 : ∀ w ∈ k2_sels lw_privs_8, w ∈ lw_tbl := fun w h => List.mem_append_left _ (by rw [show k2_sels lw_privs = List.map (fun q => Cond.selects q.1.cls q.1 q.1) lw_privs from rfl]; unfold k2_sels at h; simp only [lw_privs, List.map_append, List.mem_append]; simp only [h, true_or, or_true])
theorem tp_9 : ∀ w ∈ k2_sels lw_privs_9, w ∈ lw_tbl := fun w h => List.mem_append_left _ (by rw [show k2_sels lw_privs = List.map (fun q => Cond.selects q.1.cls q.1 q.1) lw_privs from rfl]; unfold k2_sels at h; simp only [lw_privs, List.map_append, List.mem_append]; simp only [h, true_or, or_true])
theorem tp_10 : ∀ w ∈ k2_sels lw_privs_10, w ∈ lw_tbl := fun w h => List.mem_append_left _ (by rw [show k2_sels lw_privs = List.map (fun q => Cond.selects q.1.cls q.1 q.1) lw_privs from rfl]; unfold k2_sels at h; simp only [lw_privs, List.map_append, List.mem_append]; simp only [h, true_or, or_true])
theorem tp_11 : ∀ w ∈ k2_sels lw_privs_11, w ∈ lw_tbl := fun w h => List.mem_append_left _ (by rw [show k2_sels lw_privs = List.map (fun q => Cond.selects q.1.cls q.1 q.1) lw_privs from rfl]; unfold k2_sels at h; simp only [lw_privs, List.map_append, List.mem_append]; simp only [h, true_or, or_true])
theorem fl_X11_13 : FLk RX11 13 10 0 := ⟨_, rfl, by decide, Or.inl (gW_in _ (tb_2 _ (List.mem_of_getElem? (i := 117) rfl)) rfl)⟩
theorem fl_X11_22 : FLk RX11 22 10 1 := ⟨_, rfl, by decide, Or.inl (gW_in _ (tb_2 _ (List.mem_of_getElem? (i := 118) rfl)) rfl)⟩
theorem fl_X11_26 : FLk RX11 26 10 2 := ⟨_, rfl, by decide, Or.inl (gW_in _ (tb_2 _ (List.mem_of_getElem? (i := 119) rfl)) rfl)⟩
theorem fl_X11_35 : FLk RX11 35 10 3 := ⟨_, rfl, by decide, Or.inl (gW_in _ (tb_2 _ (List.mem_of_getElem? (i := 120) rfl)) rfl)⟩
theorem fl_X11_42 : FLk RX11 42 10 4 := ⟨_, rfl, by decide, Or.inl (gW_in _ (tb_2 _ (List.mem_of_getElem? (i := 121) rfl)) rfl)⟩
theorem fp_X11_42 : FPk RX11 42 10 4 "LSmallCraft$Plan;" := ⟨_, rfl, by decide, rfl, rfl, Or.inl (gW_in _ (tb_2 _ (List.mem_of_getElem? (i := 121) rfl)) rfl)⟩
theorem fl_X11_168 : FLk RX11 168 8 3 := ⟨_, rfl, by decide, Or.inr ⟨"SmallCraft", nW_in _ (tb_1 _ (List.mem_of_getElem? (i := 58) rfl)) rfl⟩⟩
theorem fp_X11_168 : FPk RX11 168 8 3 "J" := ⟨_, rfl, by decide, rfl, rfl, Or.inr ⟨"SmallCraft", nW_in _ (tb_1 _ (List.mem_of_getElem? (i := 58) rfl)) rfl⟩⟩
theorem fl_X11_197 : FLk RX11 197 3 7 := ⟨_, rfl, by decide, Or.inr ⟨"SmallCraft", nW_in _ (tb_2 _ (List.mem_of_getElem? (i := 33) rfl)) rfl⟩⟩
theorem fp_X11_197 : FPk RX11 197 3 7 "I" := ⟨_, rfl, by decide, rfl, rfl, Or.inr ⟨"SmallCraft", nW_in _ (tb_2 _ (List.mem_of_getElem? (i := 33) rfl)) rfl⟩⟩
theorem fl_X11_203 : FLk RX11 203 3 8 := ⟨_, rfl, by decide, Or.inr ⟨"SmallCraft", nW_in _ (tb_2 _ (List.mem_of_getElem? (i := 36) rfl)) rfl⟩⟩
theorem fp_X11_203 : FPk RX11 203 3 8 "I" := ⟨_, rfl, by decide, rfl, rfl, Or.inr ⟨"SmallCraft", nW_in _ (tb_2 _ (List.mem_of_getElem? (i := 36) rfl)) rfl⟩⟩
theorem fl_X11_206 : FLk RX11 206 3 9 := ⟨_, rfl, by decide, Or.inr ⟨"SmallCraft", nW_in _ (tb_2 _ (List.mem_of_getElem? (i := 40) rfl)) rfl⟩⟩
theorem fp_X11_206 : FPk RX11 206 3 9 "Z" := ⟨_, rfl, by decide, rfl, rfl, Or.inr ⟨"SmallCraft", nW_in _ (tb_2 _ (List.mem_of_getElem? (i := 40) rfl)) rfl⟩⟩
theorem fl_X0_9 : FLk RX0 9 0 0 := ⟨_, rfl, by decide, Or.inl (gW_in _ (tb_1 _ (List.mem_of_getElem? (i := 162) rfl)) rfl)⟩
theorem fl_X0_15 : FLk RX0 15 0 1 := ⟨_, rfl, by decide, Or.inl (gW_in _ (tb_1 _ (List.mem_of_getElem? (i := 163) rfl)) rfl)⟩
theorem fl_X0_19 : FLk RX0 19 0 2 := ⟨_, rfl, by decide, Or.inl (gW_in _ (tb_1 _ (List.mem_of_getElem? (i := 164) rfl)) rfl)⟩
theorem fl_X0_22 : FLk RX0 22 0 3 := ⟨_, rfl, by decide, Or.inl (gW_in _ (tb_1 _ (List.mem_of_getElem? (i := 165) rfl)) rfl)⟩
theorem fp_X0_22 : FPk RX0 22 0 3 "I" := ⟨_, rfl, by decide, rfl, rfl, Or.inl (gW_in _ (tb_1 _ (List.mem_of_getElem? (i := 165) rfl)) rfl)⟩
theorem fl_X1_11 : FLk RX1 11 1 0 := ⟨_, rfl, by decide, Or.inl (gW_in _ (tb_1 _ (List.mem_of_getElem? (i := 232) rfl)) rfl)⟩
theorem fl_X1_15 : FLk RX1 15 1 1 := ⟨_, rfl, by decide, Or.inl (gW_in _ (tb_1 _ (List.mem_of_getElem? (i := 233) rfl)) rfl)⟩
theorem fp_X1_15 : FPk RX1 15 1 1 "I" := ⟨_, rfl, by decide, rfl, rfl, Or.inl (gW_in _ (tb_1 _ (List.mem_of_getElem? (i := 233) rfl)) rfl)⟩
theorem fl_X2_11 : FLk RX2 11 2 4 := ⟨_, rfl, by decide, Or.inl (gW_in _ (tb_2 _ (List.mem_of_getElem? (i := 79) rfl)) rfl)⟩
theorem fl_X2_15 : FLk RX2 15 2 0 := ⟨_, rfl, by decide, Or.inl (gW_in _ (tb_2 _ (List.mem_of_getElem? (i := 75) rfl)) rfl)⟩
theorem fl_X2_24 : FLk RX2 24 2 1 := ⟨_, rfl, by decide, Or.inl (gW_in _ (tb_2 _ (List.mem_of_getElem? (i := 76) rfl)) rfl)⟩
theorem fl_X2_31 : FLk RX2 31 2 2 := ⟨_, rfl, by decide, Or.inl (gW_in _ (tb_2 _ (List.mem_of_getElem? (i := 77) rfl)) rfl)⟩
theorem fl_X2_38 : FLk RX2 38 2 3 := ⟨_, rfl, by decide, Or.inl (gW_in _ (tb_2 _ (List.mem_of_getElem? (i := 78) rfl)) rfl)⟩
theorem fl_X2_45 : FLk RX2 45 2 5 := ⟨_, rfl, by decide, Or.inl (gW_in _ (tb_2 _ (List.mem_of_getElem? (i := 80) rfl)) rfl)⟩
theorem fp_X2_45 : FPk RX2 45 2 5 "LSmallCraft$Plan;" := ⟨_, rfl, by decide, rfl, rfl, Or.inl (gW_in _ (tb_2 _ (List.mem_of_getElem? (i := 80) rfl)) rfl)⟩
theorem fl_X2_57 : FLk RX2 57 2 6 := ⟨_, rfl, by decide, Or.inl (gW_in _ (tb_2 _ (List.mem_of_getElem? (i := 81) rfl)) rfl)⟩
theorem fp_X2_57 : FPk RX2 57 2 6 "I" := ⟨_, rfl, by decide, rfl, rfl, Or.inl (gW_in _ (tb_2 _ (List.mem_of_getElem? (i := 81) rfl)) rfl)⟩
theorem fl_X2_61 : FLk RX2 61 2 7 := ⟨_, rfl, by decide, Or.inl (gW_in _ (tb_2 _ (List.mem_of_getElem? (i := 82) rfl)) rfl)⟩
theorem fp_X2_61 : FPk RX2 61 2 7 "I" := ⟨_, rfl, by decide, rfl, rfl, Or.inl (gW_in _ (tb_2 _ (List.mem_of_getElem? (i := 82) rfl)) rfl)⟩
theorem fl_X2_64 : FLk RX2 64 2 8 := ⟨_, rfl, by decide, Or.inl (gW_in _ (tb_2 _ (List.mem_of_getElem? (i := 83) rfl)) rfl)⟩
theorem fp_X2_64 : FPk RX2 64 2 8 "I" := ⟨_, rfl, by decide, rfl, rfl, Or.inl (gW_in _ (tb_2 _ (List.mem_of_getElem? (i := 83) rfl)) rfl)⟩
theorem fl_X2_67 : FLk RX2 67 2 9 := ⟨_, rfl, by decide, Or.inl (gW_in _ (tb_2 _ (List.mem_of_getElem? (i := 84) rfl)) rfl)⟩
theorem fp_X2_67 : FPk RX2 67 2 9 "I" := ⟨_, rfl, by decide, rfl, rfl, Or.inl (gW_in _ (tb_2 _ (List.mem_of_getElem? (i := 84) rfl)) rfl)⟩
theorem fl_X2_70 : FLk RX2 70 2 10 := ⟨_, rfl, by decide, Or.inl (gW_in _ (tb_2 _ (List.mem_of_getElem? (i := 85) rfl)) rfl)⟩
theorem fp_X2_70 : FPk RX2 70 2 10 "I" := ⟨_, rfl, by decide, rfl, rfl, Or.inl (gW_in _ (tb_2 _ (List.mem_of_getElem? (i := 85) rfl)) rfl)⟩
theorem fl_X2_73 : FLk RX2 73 2 11 := ⟨_, rfl, by decide, Or.inl (gW_in _ (tb_2 _ (List.mem_of_getElem? (i := 86) rfl)) rfl)⟩
theorem fp_X2_73 : FPk RX2 73 2 11 "I" := ⟨_, rfl, by decide, rfl, rfl, Or.inl (gW_in _ (tb_2 _ (List.mem_of_getElem? (i := 86) rfl)) rfl)⟩
theorem fl_X2_76 : FLk RX2 76 2 12 := ⟨_, rfl, by decide, Or.inl (gW_in _ (tb_2 _ (List.mem_of_getElem? (i := 87) rfl)) rfl)⟩
theorem fp_X2_76 : FPk RX2 76 2 12 "I" := ⟨_, rfl, by decide, rfl, rfl, Or.inl (gW_in _ (tb_2 _ (List.mem_of_getElem? (i := 87) rfl)) rfl)⟩
theorem fl_X2_149 : FLk RX2 149 3 9 := ⟨_, rfl, by decide, Or.inr ⟨"SmallCraft", nW_in _ (tb_2 _ (List.mem_of_getElem? (i := 39) rfl)) rfl⟩⟩
theorem fp_X2_149 : FPk RX2 149 3 9 "Z" := ⟨_, rfl, by decide, rfl, rfl, Or.inr ⟨"SmallCraft", nW_in _ (tb_2 _ (List.mem_of_getElem? (i := 39) rfl)) rfl⟩⟩
theorem fl_X2_159 : FLk RX2 159 3 7 := ⟨_, rfl, by decide, Or.inr ⟨"SmallCraft", nW_in _ (tb_2 _ (List.mem_of_getElem? (i := 32) rfl)) rfl⟩⟩
theorem fp_X2_159 : FPk RX2 159 3 7 "I" := ⟨_, rfl, by decide, rfl, rfl, Or.inr ⟨"SmallCraft", nW_in _ (tb_2 _ (List.mem_of_getElem? (i := 32) rfl)) rfl⟩⟩
theorem fl_X2_162 : FLk RX2 162 3 4 := ⟨_, rfl, by decide, Or.inr ⟨"SmallCraft", nW_in _ (tb_2 _ (List.mem_of_getElem? (i := 23) rfl)) rfl⟩⟩
theorem fp_X2_162 : FPk RX2 162 3 4 "I" := ⟨_, rfl, by decide, rfl, rfl, Or.inr ⟨"SmallCraft", nW_in _ (tb_2 _ (List.mem_of_getElem? (i := 23) rfl)) rfl⟩⟩
theorem fl_X2_165 : FLk RX2 165 3 5 := ⟨_, rfl, by decide, Or.inr ⟨"SmallCraft", nW_in _ (tb_2 _ (List.mem_of_getElem? (i := 26) rfl)) rfl⟩⟩
theorem fp_X2_165 : FPk RX2 165 3 5 "I" := ⟨_, rfl, by decide, rfl, rfl, Or.inr ⟨"SmallCraft", nW_in _ (tb_2 _ (List.mem_of_getElem? (i := 26) rfl)) rfl⟩⟩
theorem fl_X2_168 : FLk RX2 168 3 6 := ⟨_, rfl, by decide, Or.inr ⟨"SmallCraft", nW_in _ (tb_2 _ (List.mem_of_getElem? (i := 29) rfl)) rfl⟩⟩
theorem fp_X2_168 : FPk RX2 168 3 6 "I" := ⟨_, rfl, by decide, rfl, rfl, Or.inr ⟨"SmallCraft", nW_in _ (tb_2 _ (List.mem_of_getElem? (i := 29) rfl)) rfl⟩⟩
theorem fl_X2_175 : FLk RX2 175 3 8 := ⟨_, rfl, by decide, Or.inr ⟨"SmallCraft", nW_in _ (tb_2 _ (List.mem_of_getElem? (i := 35) rfl)) rfl⟩⟩
theorem fp_X2_175 : FPk RX2 175 3 8 "I" := ⟨_, rfl, by decide, rfl, rfl, Or.inr ⟨"SmallCraft", nW_in _ (tb_2 _ (List.mem_of_getElem? (i := 35) rfl)) rfl⟩⟩
theorem fl_X2_193 : FLk RX2 193 3 2 := ⟨_, rfl, by decide, Or.inr ⟨"SmallCraft", nW_in _ (tb_2 _ (List.mem_of_getElem? (i := 18) rfl)) rfl⟩⟩
theorem fp_X2_193 : FPk RX2 193 3 2 "I" := ⟨_, rfl, by decide, rfl, rfl, Or.inr ⟨"SmallCraft", nW_in _ (tb_2 _ (List.mem_of_getElem? (i := 18) rfl)) rfl⟩⟩
theorem fl_X2_196 : FLk RX2 196 3 3 := ⟨_, rfl, by decide, Or.inr ⟨"SmallCraft", nW_in _ (tb_2 _ (List.mem_of_getElem? (i := 21) rfl)) rfl⟩⟩
theorem fp_X2_196 : FPk RX2 196 3 3 "I" := ⟨_, rfl, by decide, rfl, rfl, Or.inr ⟨"SmallCraft", nW_in _ (tb_2 _ (List.mem_of_getElem? (i := 21) rfl)) rfl⟩⟩
theorem fl_X2_205 : FLk RX2 205 8 0 := ⟨_, rfl, by decide, Or.inr ⟨"SmallCraft", nW_in _ (tb_1 _ (List.mem_of_getElem? (i := 52) rfl)) rfl⟩⟩
theorem fl_X3_11 : FLk RX3 11 3 0 := ⟨_, rfl, by decide, Or.inl (gW_in _ (tb_2 _ (List.mem_of_getElem? (i := 12) rfl)) rfl)⟩
theorem fp_X3_11 : FPk RX3 11 3 0 "I" := ⟨_, rfl, by decide, rfl, rfl, Or.inl (gW_in _ (tb_2 _ (List.mem_of_getElem? (i := 12) rfl)) rfl)⟩
theorem fl_X3_15 : FLk RX3 15 3 1 := ⟨_, rfl, by decide, Or.inl (gW_in _ (tb_2 _ (List.mem_of_getElem? (i := 14) rfl)) rfl)⟩
theorem fp_X3_15 : FPk RX3 15 3 1 "I" := ⟨_, rfl, by decide, rfl, rfl, Or.inl (gW_in _ (tb_2 _ (List.mem_of_getElem? (i := 14) rfl)) rfl)⟩
theorem fl_X3_18 : FLk RX3 18 3 2 := ⟨_, rfl, by decide, Or.inl (gW_in _ (tb_2 _ (List.mem_of_getElem? (i := 16) rfl)) rfl)⟩
theorem fp_X3_18 : FPk RX3 18 3 2 "I" := ⟨_, rfl, by decide, rfl, rfl, Or.inl (gW_in _ (tb_2 _ (List.mem_of_getElem? (i := 16) rfl)) rfl)⟩
theorem fl_X3_21 : FLk RX3 21 3 3 := ⟨_, rfl, by decide, Or.inl (gW_in _ (tb_2 _ (List.mem_of_getElem? (i := 19) rfl)) rfl)⟩
theorem fp_X3_21 : FPk RX3 21 3 3 "I" := ⟨_, rfl, by decide, rfl, rfl, Or.inl (gW_in _ (tb_2 _ (List.mem_of_getElem? (i := 19) rfl)) rfl)⟩
theorem fl_X3_24 : FLk RX3 24 3 4 := ⟨_, rfl, by decide, Or.inl (gW_in _ (tb_2 _ (List.mem_of_getElem? (i := 22) rfl)) rfl)⟩
theorem fp_X3_24 : FPk RX3 24 3 4 "I" := ⟨_, rfl, by decide, rfl, rfl, Or.inl (gW_in _ (tb_2 _ (List.mem_of_getElem? (i := 22) rfl)) rfl)⟩
theorem fl_X3_27 : FLk RX3 27 3 5 := ⟨_, rfl, by decide, Or.inl (gW_in _ (tb_2 _ (List.mem_of_getElem? (i := 25) rfl)) rfl)⟩
theorem fp_X3_27 : FPk RX3 27 3 5 "I" := ⟨_, rfl, by decide, rfl, rfl, Or.inl (gW_in _ (tb_2 _ (List.mem_of_getElem? (i := 25) rfl)) rfl)⟩
theorem fl_X3_30 : FLk RX3 30 3 6 := ⟨_, rfl, by decide, Or.inl (gW_in _ (tb_2 _ (List.mem_of_getElem? (i := 28) rfl)) rfl)⟩
theorem fp_X3_30 : FPk RX3 30 3 6 "I" := ⟨_, rfl, by decide, rfl, rfl, Or.inl (gW_in _ (tb_2 _ (List.mem_of_getElem? (i := 28) rfl)) rfl)⟩
theorem fl_X3_33 : FLk RX3 33 3 7 := ⟨_, rfl, by decide, Or.inl (gW_in _ (tb_2 _ (List.mem_of_getElem? (i := 31) rfl)) rfl)⟩
theorem fp_X3_33 : FPk RX3 33 3 7 "I" := ⟨_, rfl, by decide, rfl, rfl, Or.inl (gW_in _ (tb_2 _ (List.mem_of_getElem? (i := 31) rfl)) rfl)⟩
theorem fl_X3_36 : FLk RX3 36 3 8 := ⟨_, rfl, by decide, Or.inl (gW_in _ (tb_2 _ (List.mem_of_getElem? (i := 34) rfl)) rfl)⟩
theorem fp_X3_36 : FPk RX3 36 3 8 "I" := ⟨_, rfl, by decide, rfl, rfl, Or.inl (gW_in _ (tb_2 _ (List.mem_of_getElem? (i := 34) rfl)) rfl)⟩
theorem fl_X3_39 : FLk RX3 39 3 9 := ⟨_, rfl, by decide, Or.inl (gW_in _ (tb_2 _ (List.mem_of_getElem? (i := 37) rfl)) rfl)⟩
theorem fp_X3_39 : FPk RX3 39 3 9 "Z" := ⟨_, rfl, by decide, rfl, rfl, Or.inl (gW_in _ (tb_2 _ (List.mem_of_getElem? (i := 37) rfl)) rfl)⟩
theorem fl_X3_43 : FLk RX3 43 3 10 := ⟨_, rfl, by decide, Or.inl (gW_in _ (tb_2 _ (List.mem_of_getElem? (i := 41) rfl)) rfl)⟩
theorem fp_X3_43 : FPk RX3 43 3 10 "Z" := ⟨_, rfl, by decide, rfl, rfl, Or.inl (gW_in _ (tb_2 _ (List.mem_of_getElem? (i := 41) rfl)) rfl)⟩
theorem fl_X5_11 : FLk RX5 11 4 0 := ⟨_, rfl, by decide, Or.inl (gW_in _ (tb_2 _ (List.mem_of_getElem? (i := 65) rfl)) rfl)⟩
theorem fl_X5_18 : FLk RX5 18 4 1 := ⟨_, rfl, by decide, Or.inl (gW_in _ (tb_2 _ (List.mem_of_getElem? (i := 66) rfl)) rfl)⟩
theorem fl_X5_22 : FLk RX5 22 4 2 := ⟨_, rfl, by decide, Or.inl (gW_in _ (tb_2 _ (List.mem_of_getElem? (i := 67) rfl)) rfl)⟩
theorem fp_X5_22 : FPk RX5 22 4 2 "I" := ⟨_, rfl, by decide, rfl, rfl, Or.inl (gW_in _ (tb_2 _ (List.mem_of_getElem? (i := 67) rfl)) rfl)⟩
theorem fl_X5_30 : FLk RX5 30 3 9 := ⟨_, rfl, by decide, Or.inr ⟨"SmallCraft", nW_in _ (tb_2 _ (List.mem_of_getElem? (i := 38) rfl)) rfl⟩⟩
theorem fp_X5_30 : FPk RX5 30 3 9 "Z" := ⟨_, rfl, by decide, rfl, rfl, Or.inr ⟨"SmallCraft", nW_in _ (tb_2 _ (List.mem_of_getElem? (i := 38) rfl)) rfl⟩⟩
theorem fl_X5_64 : FLk RX5 64 3 0 := ⟨_, rfl, by decide, Or.inr ⟨"SmallCraft", nW_in _ (tb_2 _ (List.mem_of_getElem? (i := 13) rfl)) rfl⟩⟩
theorem fp_X5_64 : FPk RX5 64 3 0 "I" := ⟨_, rfl, by decide, rfl, rfl, Or.inr ⟨"SmallCraft", nW_in _ (tb_2 _ (List.mem_of_getElem? (i := 13) rfl)) rfl⟩⟩
theorem fl_X5_74 : FLk RX5 74 3 1 := ⟨_, rfl, by decide, Or.inr ⟨"SmallCraft", nW_in _ (tb_2 _ (List.mem_of_getElem? (i := 15) rfl)) rfl⟩⟩
theorem fp_X5_74 : FPk RX5 74 3 1 "I" := ⟨_, rfl, by decide, rfl, rfl, Or.inr ⟨"SmallCraft", nW_in _ (tb_2 _ (List.mem_of_getElem? (i := 15) rfl)) rfl⟩⟩
theorem fl_X5_95 : FLk RX5 95 3 2 := ⟨_, rfl, by decide, Or.inr ⟨"SmallCraft", nW_in _ (tb_2 _ (List.mem_of_getElem? (i := 17) rfl)) rfl⟩⟩
theorem fp_X5_95 : FPk RX5 95 3 2 "I" := ⟨_, rfl, by decide, rfl, rfl, Or.inr ⟨"SmallCraft", nW_in _ (tb_2 _ (List.mem_of_getElem? (i := 17) rfl)) rfl⟩⟩
theorem fl_X5_102 : FLk RX5 102 3 3 := ⟨_, rfl, by decide, Or.inr ⟨"SmallCraft", nW_in _ (tb_2 _ (List.mem_of_getElem? (i := 20) rfl)) rfl⟩⟩
theorem fp_X5_102 : FPk RX5 102 3 3 "I" := ⟨_, rfl, by decide, rfl, rfl, Or.inr ⟨"SmallCraft", nW_in _ (tb_2 _ (List.mem_of_getElem? (i := 20) rfl)) rfl⟩⟩
theorem fl_X5_149 : FLk RX5 149 3 4 := ⟨_, rfl, by decide, Or.inr ⟨"SmallCraft", nW_in _ (tb_2 _ (List.mem_of_getElem? (i := 24) rfl)) rfl⟩⟩
theorem fp_X5_149 : FPk RX5 149 3 4 "I" := ⟨_, rfl, by decide, rfl, rfl, Or.inr ⟨"SmallCraft", nW_in _ (tb_2 _ (List.mem_of_getElem? (i := 24) rfl)) rfl⟩⟩
theorem fl_X5_152 : FLk RX5 152 3 5 := ⟨_, rfl, by decide, Or.inr ⟨"SmallCraft", nW_in _ (tb_2 _ (List.mem_of_getElem? (i := 27) rfl)) rfl⟩⟩
theorem fp_X5_152 : FPk RX5 152 3 5 "I" := ⟨_, rfl, by decide, rfl, rfl, Or.inr ⟨"SmallCraft", nW_in _ (tb_2 _ (List.mem_of_getElem? (i := 27) rfl)) rfl⟩⟩
theorem fl_X5_155 : FLk RX5 155 3 6 := ⟨_, rfl, by decide, Or.inr ⟨"SmallCraft", nW_in _ (tb_2 _ (List.mem_of_getElem? (i := 30) rfl)) rfl⟩⟩
theorem fp_X5_155 : FPk RX5 155 3 6 "I" := ⟨_, rfl, by decide, rfl, rfl, Or.inr ⟨"SmallCraft", nW_in _ (tb_2 _ (List.mem_of_getElem? (i := 30) rfl)) rfl⟩⟩
theorem fl_X6_9 : FLk RX6 9 5 1 := ⟨_, rfl, by decide, Or.inl (gW_in _ (tb_1 _ (List.mem_of_getElem? (i := 208) rfl)) rfl)⟩
theorem fl_X6_15 : FLk RX6 15 5 0 := ⟨_, rfl, by decide, Or.inl (gW_in _ (tb_1 _ (List.mem_of_getElem? (i := 207) rfl)) rfl)⟩
theorem fl_X6_19 : FLk RX6 19 5 2 := ⟨_, rfl, by decide, Or.inl (gW_in _ (tb_1 _ (List.mem_of_getElem? (i := 209) rfl)) rfl)⟩
theorem fp_X6_19 : FPk RX6 19 5 2 "I" := ⟨_, rfl, by decide, rfl, rfl, Or.inl (gW_in _ (tb_1 _ (List.mem_of_getElem? (i := 209) rfl)) rfl)⟩
theorem fl_X6_23 : FLk RX6 23 5 3 := ⟨_, rfl, by decide, Or.inl (gW_in _ (tb_1 _ (List.mem_of_getElem? (i := 210) rfl)) rfl)⟩
theorem fp_X6_23 : FPk RX6 23 5 3 "I" := ⟨_, rfl, by decide, rfl, rfl, Or.inl (gW_in _ (tb_1 _ (List.mem_of_getElem? (i := 210) rfl)) rfl)⟩
theorem fl_X6_26 : FLk RX6 26 5 4 := ⟨_, rfl, by decide, Or.inl (gW_in _ (tb_1 _ (List.mem_of_getElem? (i := 211) rfl)) rfl)⟩
theorem fp_X6_26 : FPk RX6 26 5 4 "I" := ⟨_, rfl, by decide, rfl, rfl, Or.inl (gW_in _ (tb_1 _ (List.mem_of_getElem? (i := 211) rfl)) rfl)⟩
theorem fl_X6_29 : FLk RX6 29 5 5 := ⟨_, rfl, by decide, Or.inl (gW_in _ (tb_1 _ (List.mem_of_getElem? (i := 212) rfl)) rfl)⟩
theorem fp_X6_29 : FPk RX6 29 5 5 "I" := ⟨_, rfl, by decide, rfl, rfl, Or.inl (gW_in _ (tb_1 _ (List.mem_of_getElem? (i := 212) rfl)) rfl)⟩
theorem fl_X6_72 : FLk RX6 72 8 0 := ⟨_, rfl, by decide, Or.inr ⟨"SmallCraft", nW_in _ (tb_1 _ (List.mem_of_getElem? (i := 50) rfl)) rfl⟩⟩
theorem fl_X7_9 : FLk RX7 9 6 1 := ⟨_, rfl, by decide, Or.inl (gW_in _ (tb_1 _ (List.mem_of_getElem? (i := 189) rfl)) rfl)⟩
theorem fl_X7_15 : FLk RX7 15 6 2 := ⟨_, rfl, by decide, Or.inl (gW_in _ (tb_1 _ (List.mem_of_getElem? (i := 190) rfl)) rfl)⟩
theorem fl_X7_18 : FLk RX7 18 6 3 := ⟨_, rfl, by decide, Or.inl (gW_in _ (tb_1 _ (List.mem_of_getElem? (i := 191) rfl)) rfl)⟩
theorem fl_X7_21 : FLk RX7 21 6 0 := ⟨_, rfl, by decide, Or.inl (gW_in _ (tb_1 _ (List.mem_of_getElem? (i := 188) rfl)) rfl)⟩
theorem fl_X7_82 : FLk RX7 82 8 0 := ⟨_, rfl, by decide, Or.inr ⟨"SmallCraft", nW_in _ (tb_1 _ (List.mem_of_getElem? (i := 51) rfl)) rfl⟩⟩
theorem fl_X8_11 : FLk RX8 11 7 0 := ⟨_, rfl, by decide, Or.inl (gW_in _ (tb_1 _ (List.mem_of_getElem? (i := 125) rfl)) rfl)⟩
theorem fl_X8_15 : FLk RX8 15 7 9 := ⟨_, rfl, by decide, Or.inl (gW_in _ (tb_1 _ (List.mem_of_getElem? (i := 134) rfl)) rfl)⟩
theorem fp_X8_15 : FPk RX8 15 7 9 "I" := ⟨_, rfl, by decide, rfl, rfl, Or.inl (gW_in _ (tb_1 _ (List.mem_of_getElem? (i := 134) rfl)) rfl)⟩
theorem fl_X8_19 : FLk RX8 19 7 1 := ⟨_, rfl, by decide, Or.inl (gW_in _ (tb_1 _ (List.mem_of_getElem? (i := 126) rfl)) rfl)⟩
theorem fp_X8_19 : FPk RX8 19 7 1 "I" := ⟨_, rfl, by decide, rfl, rfl, Or.inl (gW_in _ (tb_1 _ (List.mem_of_getElem? (i := 126) rfl)) rfl)⟩
theorem fl_X8_22 : FLk RX8 22 7 2 := ⟨_, rfl, by decide, Or.inl (gW_in _ (tb_1 _ (List.mem_of_getElem? (i := 127) rfl)) rfl)⟩
theorem fp_X8_22 : FPk RX8 22 7 2 "I" := ⟨_, rfl, by decide, rfl, rfl, Or.inl (gW_in _ (tb_1 _ (List.mem_of_getElem? (i := 127) rfl)) rfl)⟩
theorem fl_X8_25 : FLk RX8 25 7 3 := ⟨_, rfl, by decide, Or.inl (gW_in _ (tb_1 _ (List.mem_of_getElem? (i := 128) rfl)) rfl)⟩
theorem fp_X8_25 : FPk RX8 25 7 3 "I" := ⟨_, rfl, by decide, rfl, rfl, Or.inl (gW_in _ (tb_1 _ (List.mem_of_getElem? (i := 128) rfl)) rfl)⟩
theorem fl_X8_28 : FLk RX8 28 7 8 := ⟨_, rfl, by decide, Or.inl (gW_in _ (tb_1 _ (List.mem_of_getElem? (i := 133) rfl)) rfl)⟩
theorem fp_X8_28 : FPk RX8 28 7 8 "I" := ⟨_, rfl, by decide, rfl, rfl, Or.inl (gW_in _ (tb_1 _ (List.mem_of_getElem? (i := 133) rfl)) rfl)⟩
theorem fl_X8_31 : FLk RX8 31 7 6 := ⟨_, rfl, by decide, Or.inl (gW_in _ (tb_1 _ (List.mem_of_getElem? (i := 131) rfl)) rfl)⟩
theorem fp_X8_31 : FPk RX8 31 7 6 "I" := ⟨_, rfl, by decide, rfl, rfl, Or.inl (gW_in _ (tb_1 _ (List.mem_of_getElem? (i := 131) rfl)) rfl)⟩
theorem fl_X8_34 : FLk RX8 34 7 7 := ⟨_, rfl, by decide, Or.inl (gW_in _ (tb_1 _ (List.mem_of_getElem? (i := 132) rfl)) rfl)⟩
theorem fp_X8_34 : FPk RX8 34 7 7 "J" := ⟨_, rfl, by decide, rfl, rfl, Or.inl (gW_in _ (tb_1 _ (List.mem_of_getElem? (i := 132) rfl)) rfl)⟩
theorem fl_X8_38 : FLk RX8 38 7 4 := ⟨_, rfl, by decide, Or.inl (gW_in _ (tb_1 _ (List.mem_of_getElem? (i := 129) rfl)) rfl)⟩
theorem fp_X8_38 : FPk RX8 38 7 4 "I" := ⟨_, rfl, by decide, rfl, rfl, Or.inl (gW_in _ (tb_1 _ (List.mem_of_getElem? (i := 129) rfl)) rfl)⟩
theorem fl_X8_54 : FLk RX8 54 7 5 := ⟨_, rfl, by decide, Or.inl (gW_in _ (tb_1 _ (List.mem_of_getElem? (i := 130) rfl)) rfl)⟩
theorem fp_X8_54 : FPk RX8 54 7 5 "I" := ⟨_, rfl, by decide, rfl, rfl, Or.inl (gW_in _ (tb_1 _ (List.mem_of_getElem? (i := 130) rfl)) rfl)⟩
theorem fl_X9_9 : FLk RX9 9 8 0 := ⟨_, rfl, by decide, Or.inl (gW_in _ (tb_1 _ (List.mem_of_getElem? (i := 48) rfl)) rfl)⟩
theorem fl_X9_15 : FLk RX9 15 8 1 := ⟨_, rfl, by decide, Or.inl (gW_in _ (tb_1 _ (List.mem_of_getElem? (i := 53) rfl)) rfl)⟩
theorem fl_X9_18 : FLk RX9 18 8 2 := ⟨_, rfl, by decide, Or.inl (gW_in _ (tb_1 _ (List.mem_of_getElem? (i := 55) rfl)) rfl)⟩
theorem fl_X9_27 : FLk RX9 27 8 3 := ⟨_, rfl, by decide, Or.inl (gW_in _ (tb_1 _ (List.mem_of_getElem? (i := 56) rfl)) rfl)⟩
theorem fp_X9_27 : FPk RX9 27 8 3 "J" := ⟨_, rfl, by decide, rfl, rfl, Or.inl (gW_in _ (tb_1 _ (List.mem_of_getElem? (i := 56) rfl)) rfl)⟩
theorem fl_X9_35 : FLk RX9 35 8 4 := ⟨_, rfl, by decide, Or.inl (gW_in _ (tb_1 _ (List.mem_of_getElem? (i := 59) rfl)) rfl)⟩
theorem fp_X9_35 : FPk RX9 35 8 4 "I" := ⟨_, rfl, by decide, rfl, rfl, Or.inl (gW_in _ (tb_1 _ (List.mem_of_getElem? (i := 59) rfl)) rfl)⟩
theorem fl_X9_39 : FLk RX9 39 8 5 := ⟨_, rfl, by decide, Or.inl (gW_in _ (tb_1 _ (List.mem_of_getElem? (i := 61) rfl)) rfl)⟩
theorem fp_X9_39 : FPk RX9 39 8 5 "I" := ⟨_, rfl, by decide, rfl, rfl, Or.inl (gW_in _ (tb_1 _ (List.mem_of_getElem? (i := 61) rfl)) rfl)⟩
theorem fl_X9_42 : FLk RX9 42 8 6 := ⟨_, rfl, by decide, Or.inl (gW_in _ (tb_1 _ (List.mem_of_getElem? (i := 63) rfl)) rfl)⟩
theorem fp_X9_42 : FPk RX9 42 8 6 "I" := ⟨_, rfl, by decide, rfl, rfl, Or.inl (gW_in _ (tb_1 _ (List.mem_of_getElem? (i := 63) rfl)) rfl)⟩
theorem fl_X9_53 : FLk RX9 53 8 7 := ⟨_, rfl, by decide, Or.inl (gW_in _ (tb_1 _ (List.mem_of_getElem? (i := 65) rfl)) rfl)⟩
theorem fp_X9_53 : FPk RX9 53 8 7 "I" := ⟨_, rfl, by decide, rfl, rfl, Or.inl (gW_in _ (tb_1 _ (List.mem_of_getElem? (i := 65) rfl)) rfl)⟩
theorem fl_X9_56 : FLk RX9 56 8 8 := ⟨_, rfl, by decide, Or.inl (gW_in _ (tb_1 _ (List.mem_of_getElem? (i := 67) rfl)) rfl)⟩
theorem fp_X9_56 : FPk RX9 56 8 8 "I" := ⟨_, rfl, by decide, rfl, rfl, Or.inl (gW_in _ (tb_1 _ (List.mem_of_getElem? (i := 67) rfl)) rfl)⟩
theorem fl_X9_66 : FLk RX9 66 8 9 := ⟨_, rfl, by decide, Or.inl (gW_in _ (tb_1 _ (List.mem_of_getElem? (i := 68) rfl)) rfl)⟩
theorem fp_X9_66 : FPk RX9 66 8 9 "I" := ⟨_, rfl, by decide, rfl, rfl, Or.inl (gW_in _ (tb_1 _ (List.mem_of_getElem? (i := 68) rfl)) rfl)⟩
theorem fl_X10_11 : FLk RX10 11 9 0 := ⟨_, rfl, by decide, Or.inl (gW_in _ (tb_1 _ (List.mem_of_getElem? (i := 91) rfl)) rfl)⟩
theorem fl_X10_18 : FLk RX10 18 9 1 := ⟨_, rfl, by decide, Or.inl (gW_in _ (tb_1 _ (List.mem_of_getElem? (i := 92) rfl)) rfl)⟩
theorem fl_X10_22 : FLk RX10 22 9 2 := ⟨_, rfl, by decide, Or.inl (gW_in _ (tb_1 _ (List.mem_of_getElem? (i := 93) rfl)) rfl)⟩
theorem fl_X10_26 : FLk RX10 26 9 3 := ⟨_, rfl, by decide, Or.inl (gW_in _ (tb_1 _ (List.mem_of_getElem? (i := 94) rfl)) rfl)⟩
theorem fp_X10_26 : FPk RX10 26 9 3 "I" := ⟨_, rfl, by decide, rfl, rfl, Or.inl (gW_in _ (tb_1 _ (List.mem_of_getElem? (i := 94) rfl)) rfl)⟩
theorem fl_X10_38 : FLk RX10 38 8 3 := ⟨_, rfl, by decide, Or.inr ⟨"SmallCraft", nW_in _ (tb_1 _ (List.mem_of_getElem? (i := 57) rfl)) rfl⟩⟩
theorem fp_X10_38 : FPk RX10 38 8 3 "J" := ⟨_, rfl, by decide, rfl, rfl, Or.inr ⟨"SmallCraft", nW_in _ (tb_1 _ (List.mem_of_getElem? (i := 57) rfl)) rfl⟩⟩
theorem fl_X10_42 : FLk RX10 42 8 0 := ⟨_, rfl, by decide, Or.inr ⟨"SmallCraft", nW_in _ (tb_1 _ (List.mem_of_getElem? (i := 49) rfl)) rfl⟩⟩
theorem fl_X10_45 : FLk RX10 45 9 4 := ⟨_, rfl, by decide, Or.inl (gW_in _ (tb_1 _ (List.mem_of_getElem? (i := 95) rfl)) rfl)⟩
theorem fp_X10_45 : FPk RX10 45 9 4 "I" := ⟨_, rfl, by decide, rfl, rfl, Or.inl (gW_in _ (tb_1 _ (List.mem_of_getElem? (i := 95) rfl)) rfl)⟩
theorem fl_X10_48 : FLk RX10 48 9 5 := ⟨_, rfl, by decide, Or.inl (gW_in _ (tb_1 _ (List.mem_of_getElem? (i := 96) rfl)) rfl)⟩
theorem fp_X10_48 : FPk RX10 48 9 5 "I" := ⟨_, rfl, by decide, rfl, rfl, Or.inl (gW_in _ (tb_1 _ (List.mem_of_getElem? (i := 96) rfl)) rfl)⟩
theorem fl_X10_51 : FLk RX10 51 9 6 := ⟨_, rfl, by decide, Or.inl (gW_in _ (tb_1 _ (List.mem_of_getElem? (i := 97) rfl)) rfl)⟩
theorem fp_X10_51 : FPk RX10 51 9 6 "I" := ⟨_, rfl, by decide, rfl, rfl, Or.inl (gW_in _ (tb_1 _ (List.mem_of_getElem? (i := 97) rfl)) rfl)⟩
theorem fl_X10_54 : FLk RX10 54 9 7 := ⟨_, rfl, by decide, Or.inl (gW_in _ (tb_1 _ (List.mem_of_getElem? (i := 98) rfl)) rfl)⟩
theorem fp_X10_54 : FPk RX10 54 9 7 "I" := ⟨_, rfl, by decide, rfl, rfl, Or.inl (gW_in _ (tb_1 _ (List.mem_of_getElem? (i := 98) rfl)) rfl)⟩
theorem fl_X10_57 : FLk RX10 57 9 8 := ⟨_, rfl, by decide, Or.inl (gW_in _ (tb_1 _ (List.mem_of_getElem? (i := 99) rfl)) rfl)⟩
theorem fp_X10_57 : FPk RX10 57 9 8 "I" := ⟨_, rfl, by decide, rfl, rfl, Or.inl (gW_in _ (tb_1 _ (List.mem_of_getElem? (i := 99) rfl)) rfl)⟩
theorem fl_X10_91 : FLk RX10 91 8 7 := ⟨_, rfl, by decide, Or.inr ⟨"SmallCraft", nW_in _ (tb_1 _ (List.mem_of_getElem? (i := 66) rfl)) rfl⟩⟩
theorem fp_X10_91 : FPk RX10 91 8 7 "I" := ⟨_, rfl, by decide, rfl, rfl, Or.inr ⟨"SmallCraft", nW_in _ (tb_1 _ (List.mem_of_getElem? (i := 66) rfl)) rfl⟩⟩
theorem fl_X10_94 : FLk RX10 94 8 1 := ⟨_, rfl, by decide, Or.inr ⟨"SmallCraft", nW_in _ (tb_1 _ (List.mem_of_getElem? (i := 54) rfl)) rfl⟩⟩
theorem fl_X10_200 : FLk RX10 200 8 4 := ⟨_, rfl, by decide, Or.inr ⟨"SmallCraft", nW_in _ (tb_1 _ (List.mem_of_getElem? (i := 60) rfl)) rfl⟩⟩
theorem fp_X10_200 : FPk RX10 200 8 4 "I" := ⟨_, rfl, by decide, rfl, rfl, Or.inr ⟨"SmallCraft", nW_in _ (tb_1 _ (List.mem_of_getElem? (i := 60) rfl)) rfl⟩⟩
theorem fl_X10_206 : FLk RX10 206 8 5 := ⟨_, rfl, by decide, Or.inr ⟨"SmallCraft", nW_in _ (tb_1 _ (List.mem_of_getElem? (i := 62) rfl)) rfl⟩⟩
theorem fp_X10_206 : FPk RX10 206 8 5 "I" := ⟨_, rfl, by decide, rfl, rfl, Or.inr ⟨"SmallCraft", nW_in _ (tb_1 _ (List.mem_of_getElem? (i := 62) rfl)) rfl⟩⟩
theorem fl_X10_209 : FLk RX10 209 8 6 := ⟨_, rfl, by decide, Or.inr ⟨"SmallCraft", nW_in _ (tb_1 _ (List.mem_of_getElem? (i := 64) rfl)) rfl⟩⟩
theorem fp_X10_209 : FPk RX10 209 8 6 "I" := ⟨_, rfl, by decide, rfl, rfl, Or.inr ⟨"SmallCraft", nW_in _ (tb_1 _ (List.mem_of_getElem? (i := 64) rfl)) rfl⟩⟩
theorem fl_X12_7 : FLk RX12 7 11 0 := ⟨_, rfl, by decide, Or.inl (gW_in _ (tb_7 _ (List.mem_of_getElem? (i := 68) rfl)) rfl)⟩
theorem fl_X12_13 : FLk RX12 13 11 1 := ⟨_, rfl, by decide, Or.inl (gW_in _ (tb_7 _ (List.mem_of_getElem? (i := 69) rfl)) rfl)⟩
theorem fl_X12_16 : FLk RX12 16 11 2 := ⟨_, rfl, by decide, Or.inl (gW_in _ (tb_7 _ (List.mem_of_getElem? (i := 70) rfl)) rfl)⟩
theorem fl_X12_19 : FLk RX12 19 11 3 := ⟨_, rfl, by decide, Or.inl (gW_in _ (tb_7 _ (List.mem_of_getElem? (i := 71) rfl)) rfl)⟩
theorem fl_X12_22 : FLk RX12 22 11 4 := ⟨_, rfl, by decide, Or.inl (gW_in _ (tb_7 _ (List.mem_of_getElem? (i := 72) rfl)) rfl)⟩
theorem fl_X12_25 : FLk RX12 25 11 6 := ⟨_, rfl, by decide, Or.inl (gW_in _ (tb_7 _ (List.mem_of_getElem? (i := 74) rfl)) rfl)⟩
theorem fl_X12_28 : FLk RX12 28 11 8 := ⟨_, rfl, by decide, Or.inl (gW_in _ (tb_7 _ (List.mem_of_getElem? (i := 76) rfl)) rfl)⟩
theorem fl_X12_31 : FLk RX12 31 11 16 := ⟨_, rfl, by decide, Or.inl (gW_in _ (tb_7 _ (List.mem_of_getElem? (i := 84) rfl)) rfl)⟩
theorem fp_X12_31 : FPk RX12 31 11 16 "I" := ⟨_, rfl, by decide, rfl, rfl, Or.inl (gW_in _ (tb_7 _ (List.mem_of_getElem? (i := 84) rfl)) rfl)⟩
theorem fl_X12_35 : FLk RX12 35 11 18 := ⟨_, rfl, by decide, Or.inl (gW_in _ (tb_7 _ (List.mem_of_getElem? (i := 86) rfl)) rfl)⟩
theorem fl_X12_38 : FLk RX12 38 11 19 := ⟨_, rfl, by decide, Or.inl (gW_in _ (tb_7 _ (List.mem_of_getElem? (i := 87) rfl)) rfl)⟩
theorem fl_X12_41 : FLk RX12 41 11 20 := ⟨_, rfl, by decide, Or.inl (gW_in _ (tb_7 _ (List.mem_of_getElem? (i := 88) rfl)) rfl)⟩
theorem fl_X12_44 : FLk RX12 44 11 22 := ⟨_, rfl, by decide, Or.inl (gW_in _ (tb_7 _ (List.mem_of_getElem? (i := 90) rfl)) rfl)⟩
theorem fl_X12_47 : FLk RX12 47 11 23 := ⟨_, rfl, by decide, Or.inl (gW_in _ (tb_7 _ (List.mem_of_getElem? (i := 91) rfl)) rfl)⟩
theorem fl_X12_50 : FLk RX12 50 11 24 := ⟨_, rfl, by decide, Or.inl (gW_in _ (tb_7 _ (List.mem_of_getElem? (i := 92) rfl)) rfl)⟩
theorem fl_X12_53 : FLk RX12 53 11 29 := ⟨_, rfl, by decide, Or.inl (gW_in _ (tb_7 _ (List.mem_of_getElem? (i := 97) rfl)) rfl)⟩
theorem fl_X12_56 : FLk RX12 56 11 30 := ⟨_, rfl, by decide, Or.inl (gW_in _ (tb_7 _ (List.mem_of_getElem? (i := 98) rfl)) rfl)⟩
theorem fl_X12_59 : FLk RX12 59 11 31 := ⟨_, rfl, by decide, Or.inl (gW_in _ (tb_7 _ (List.mem_of_getElem? (i := 99) rfl)) rfl)⟩
theorem fl_X12_62 : FLk RX12 62 11 32 := ⟨_, rfl, by decide, Or.inl (gW_in _ (tb_7 _ (List.mem_of_getElem? (i := 100) rfl)) rfl)⟩
theorem fl_X12_65 : FLk RX12 65 11 33 := ⟨_, rfl, by decide, Or.inl (gW_in _ (tb_7 _ (List.mem_of_getElem? (i := 101) rfl)) rfl)⟩
theorem fl_X12_68 : FLk RX12 68 11 36 := ⟨_, rfl, by decide, Or.inl (gW_in _ (tb_7 _ (List.mem_of_getElem? (i := 104) rfl)) rfl)⟩
theorem fl_X12_71 : FLk RX12 71 11 37 := ⟨_, rfl, by decide, Or.inl (gW_in _ (tb_7 _ (List.mem_of_getElem? (i := 105) rfl)) rfl)⟩
theorem fl_X12_74 : FLk RX12 74 11 38 := ⟨_, rfl, by decide, Or.inl (gW_in _ (tb_7 _ (List.mem_of_getElem? (i := 106) rfl)) rfl)⟩
theorem fl_X12_77 : FLk RX12 77 11 51 := ⟨_, rfl, by decide, Or.inl (gW_in _ (tb_7 _ (List.mem_of_getElem? (i := 119) rfl)) rfl)⟩
theorem fl_X12_81 : FLk RX12 81 11 52 := ⟨_, rfl, by decide, Or.inl (gW_in _ (tb_7 _ (List.mem_of_getElem? (i := 120) rfl)) rfl)⟩
theorem fl_X12_84 : FLk RX12 84 11 55 := ⟨_, rfl, by decide, Or.inl (gW_in _ (tb_7 _ (List.mem_of_getElem? (i := 123) rfl)) rfl)⟩
theorem fl_X12_87 : FLk RX12 87 11 56 := ⟨_, rfl, by decide, Or.inl (gW_in _ (tb_7 _ (List.mem_of_getElem? (i := 124) rfl)) rfl)⟩
theorem fl_X12_90 : FLk RX12 90 11 57 := ⟨_, rfl, by decide, Or.inl (gW_in _ (tb_7 _ (List.mem_of_getElem? (i := 125) rfl)) rfl)⟩
theorem fl_X12_93 : FLk RX12 93 11 58 := ⟨_, rfl, by decide, Or.inl (gW_in _ (tb_7 _ (List.mem_of_getElem? (i := 126) rfl)) rfl)⟩
theorem fl_X12_96 : FLk RX12 96 11 59 := ⟨_, rfl, by decide, Or.inl (gW_in _ (tb_7 _ (List.mem_of_getElem? (i := 127) rfl)) rfl)⟩
theorem fl_X12_100 : FLk RX12 100 11 60 := ⟨_, rfl, by decide, Or.inl (gW_in _ (tb_7 _ (List.mem_of_getElem? (i := 128) rfl)) rfl)⟩
theorem fl_X12_103 : FLk RX12 103 11 61 := ⟨_, rfl, by decide, Or.inl (gW_in _ (tb_7 _ (List.mem_of_getElem? (i := 129) rfl)) rfl)⟩
theorem fl_X12_106 : FLk RX12 106 11 62 := ⟨_, rfl, by decide, Or.inl (gW_in _ (tb_7 _ (List.mem_of_getElem? (i := 130) rfl)) rfl)⟩
theorem fl_X12_109 : FLk RX12 109 11 63 := ⟨_, rfl, by decide, Or.inl (gW_in _ (tb_7 _ (List.mem_of_getElem? (i := 131) rfl)) rfl)⟩
theorem fl_X12_112 : FLk RX12 112 11 5 := ⟨_, rfl, by decide, Or.inl (gW_in _ (tb_7 _ (List.mem_of_getElem? (i := 73) rfl)) rfl)⟩
theorem fp_X12_112 : FPk RX12 112 11 5 "I" := ⟨_, rfl, by decide, rfl, rfl, Or.inl (gW_in _ (tb_7 _ (List.mem_of_getElem? (i := 73) rfl)) rfl)⟩
theorem fl_X12_119 : FLk RX12 119 11 7 := ⟨_, rfl, by decide, Or.inl (gW_in _ (tb_7 _ (List.mem_of_getElem? (i := 75) rfl)) rfl)⟩
theorem fp_X12_119 : FPk RX12 119 11 7 "I" := ⟨_, rfl, by decide, rfl, rfl, Or.inl (gW_in _ (tb_7 _ (List.mem_of_getElem? (i := 75) rfl)) rfl)⟩
theorem fl_X12_122 : FLk RX12 122 11 9 := ⟨_, rfl, by decide, Or.inl (gW_in _ (tb_7 _ (List.mem_of_getElem? (i := 77) rfl)) rfl)⟩
theorem fp_X12_122 : FPk RX12 122 11 9 "I" := ⟨_, rfl, by decide, rfl, rfl, Or.inl (gW_in _ (tb_7 _ (List.mem_of_getElem? (i := 77) rfl)) rfl)⟩
theorem fl_X12_125 : FLk RX12 125 11 10 := ⟨_, rfl, by decide, Or.inl (gW_in _ (tb_7 _ (List.mem_of_getElem? (i := 78) rfl)) rfl)⟩
theorem fp_X12_125 : FPk RX12 125 11 10 "I" := ⟨_, rfl, by decide, rfl, rfl, Or.inl (gW_in _ (tb_7 _ (List.mem_of_getElem? (i := 78) rfl)) rfl)⟩
theorem fl_X12_128 : FLk RX12 128 11 15 := ⟨_, rfl, by decide, Or.inl (gW_in _ (tb_7 _ (List.mem_of_getElem? (i := 83) rfl)) rfl)⟩
theorem fp_X12_128 : FPk RX12 128 11 15 "I" := ⟨_, rfl, by decide, rfl, rfl, Or.inl (gW_in _ (tb_7 _ (List.mem_of_getElem? (i := 83) rfl)) rfl)⟩
theorem fl_X12_135 : FLk RX12 135 11 12 := ⟨_, rfl, by decide, Or.inl (gW_in _ (tb_7 _ (List.mem_of_getElem? (i := 80) rfl)) rfl)⟩
theorem fp_X12_135 : FPk RX12 135 11 12 "I" := ⟨_, rfl, by decide, rfl, rfl, Or.inl (gW_in _ (tb_7 _ (List.mem_of_getElem? (i := 80) rfl)) rfl)⟩
theorem fl_X12_138 : FLk RX12 138 11 11 := ⟨_, rfl, by decide, Or.inl (gW_in _ (tb_7 _ (List.mem_of_getElem? (i := 79) rfl)) rfl)⟩
theorem fp_X12_138 : FPk RX12 138 11 11 "I" := ⟨_, rfl, by decide, rfl, rfl, Or.inl (gW_in _ (tb_7 _ (List.mem_of_getElem? (i := 79) rfl)) rfl)⟩
theorem fl_X12_154 : FLk RX12 154 11 14 := ⟨_, rfl, by decide, Or.inl (gW_in _ (tb_7 _ (List.mem_of_getElem? (i := 82) rfl)) rfl)⟩
theorem fp_X12_154 : FPk RX12 154 11 14 "I" := ⟨_, rfl, by decide, rfl, rfl, Or.inl (gW_in _ (tb_7 _ (List.mem_of_getElem? (i := 82) rfl)) rfl)⟩
theorem fl_X12_161 : FLk RX12 161 11 13 := ⟨_, rfl, by decide, Or.inl (gW_in _ (tb_7 _ (List.mem_of_getElem? (i := 81) rfl)) rfl)⟩
theorem fp_X12_161 : FPk RX12 161 11 13 "I" := ⟨_, rfl, by decide, rfl, rfl, Or.inl (gW_in _ (tb_7 _ (List.mem_of_getElem? (i := 81) rfl)) rfl)⟩
theorem fl_X12_168 : FLk RX12 168 11 17 := ⟨_, rfl, by decide, Or.inl (gW_in _ (tb_7 _ (List.mem_of_getElem? (i := 85) rfl)) rfl)⟩
theorem fp_X12_168 : FPk RX12 168 11 17 "I" := ⟨_, rfl, by decide, rfl, rfl, Or.inl (gW_in _ (tb_7 _ (List.mem_of_getElem? (i := 85) rfl)) rfl)⟩
theorem fl_X12_205 : FLk RX12 205 11 25 := ⟨_, rfl, by decide, Or.inl (gW_in _ (tb_7 _ (List.mem_of_getElem? (i := 93) rfl)) rfl)⟩
theorem fp_X12_205 : FPk RX12 205 11 25 "I" := ⟨_, rfl, by decide, rfl, rfl, Or.inl (gW_in _ (tb_7 _ (List.mem_of_getElem? (i := 93) rfl)) rfl)⟩
theorem fl_X12_208 : FLk RX12 208 11 28 := ⟨_, rfl, by decide, Or.inl (gW_in _ (tb_7 _ (List.mem_of_getElem? (i := 96) rfl)) rfl)⟩
theorem fp_X12_208 : FPk RX12 208 11 28 "I" := ⟨_, rfl, by decide, rfl, rfl, Or.inl (gW_in _ (tb_7 _ (List.mem_of_getElem? (i := 96) rfl)) rfl)⟩
theorem fl_X12_256 : FLk RX12 256 11 27 := ⟨_, rfl, by decide, Or.inl (gW_in _ (tb_7 _ (List.mem_of_getElem? (i := 95) rfl)) rfl)⟩
theorem fp_X12_256 : FPk RX12 256 11 27 "I" := ⟨_, rfl, by decide, rfl, rfl, Or.inl (gW_in _ (tb_7 _ (List.mem_of_getElem? (i := 95) rfl)) rfl)⟩
theorem fl_X12_262 : FLk RX12 262 11 26 := ⟨_, rfl, by decide, Or.inl (gW_in _ (tb_7 _ (List.mem_of_getElem? (i := 94) rfl)) rfl)⟩
theorem fp_X12_262 : FPk RX12 262 11 26 "I" := ⟨_, rfl, by decide, rfl, rfl, Or.inl (gW_in _ (tb_7 _ (List.mem_of_getElem? (i := 94) rfl)) rfl)⟩
theorem fl_X12_297 : FLk RX12 297 11 21 := ⟨_, rfl, by decide, Or.inl (gW_in _ (tb_7 _ (List.mem_of_getElem? (i := 89) rfl)) rfl)⟩
theorem fp_X12_297 : FPk RX12 297 11 21 "I" := ⟨_, rfl, by decide, rfl, rfl, Or.inl (gW_in _ (tb_7 _ (List.mem_of_getElem? (i := 89) rfl)) rfl)⟩
theorem fl_X12_306 : FLk RX12 306 11 34 := ⟨_, rfl, by decide, Or.inl (gW_in _ (tb_7 _ (List.mem_of_getElem? (i := 102) rfl)) rfl)⟩
theorem fp_X12_306 : FPk RX12 306 11 34 "I" := ⟨_, rfl, by decide, rfl, rfl, Or.inl (gW_in _ (tb_7 _ (List.mem_of_getElem? (i := 102) rfl)) rfl)⟩
theorem fl_X12_309 : FLk RX12 309 11 35 := ⟨_, rfl, by decide, Or.inl (gW_in _ (tb_7 _ (List.mem_of_getElem? (i := 103) rfl)) rfl)⟩
theorem fp_X12_309 : FPk RX12 309 11 35 "I" := ⟨_, rfl, by decide, rfl, rfl, Or.inl (gW_in _ (tb_7 _ (List.mem_of_getElem? (i := 103) rfl)) rfl)⟩
theorem fl_X12_312 : FLk RX12 312 11 39 := ⟨_, rfl, by decide, Or.inl (gW_in _ (tb_7 _ (List.mem_of_getElem? (i := 107) rfl)) rfl)⟩
theorem fp_X12_312 : FPk RX12 312 11 39 "I" := ⟨_, rfl, by decide, rfl, rfl, Or.inl (gW_in _ (tb_7 _ (List.mem_of_getElem? (i := 107) rfl)) rfl)⟩
theorem fl_X12_315 : FLk RX12 315 11 40 := ⟨_, rfl, by decide, Or.inl (gW_in _ (tb_7 _ (List.mem_of_getElem? (i := 108) rfl)) rfl)⟩
theorem fp_X12_315 : FPk RX12 315 11 40 "I" := ⟨_, rfl, by decide, rfl, rfl, Or.inl (gW_in _ (tb_7 _ (List.mem_of_getElem? (i := 108) rfl)) rfl)⟩
theorem fl_X12_318 : FLk RX12 318 11 41 := ⟨_, rfl, by decide, Or.inl (gW_in _ (tb_7 _ (List.mem_of_getElem? (i := 109) rfl)) rfl)⟩
theorem fp_X12_318 : FPk RX12 318 11 41 "I" := ⟨_, rfl, by decide, rfl, rfl, Or.inl (gW_in _ (tb_7 _ (List.mem_of_getElem? (i := 109) rfl)) rfl)⟩
theorem fl_X12_321 : FLk RX12 321 11 42 := ⟨_, rfl, by decide, Or.inl (gW_in _ (tb_7 _ (List.mem_of_getElem? (i := 110) rfl)) rfl)⟩
theorem fp_X12_321 : FPk RX12 321 11 42 "I" := ⟨_, rfl, by decide, rfl, rfl, Or.inl (gW_in _ (tb_7 _ (List.mem_of_getElem? (i := 110) rfl)) rfl)⟩
theorem fl_X12_324 : FLk RX12 324 11 43 := ⟨_, rfl, by decide, Or.inl (gW_in _ (tb_7 _ (List.mem_of_getElem? (i := 111) rfl)) rfl)⟩
theorem fp_X12_324 : FPk RX12 324 11 43 "I" := ⟨_, rfl, by decide, rfl, rfl, Or.inl (gW_in _ (tb_7 _ (List.mem_of_getElem? (i := 111) rfl)) rfl)⟩
theorem fl_X12_327 : FLk RX12 327 11 44 := ⟨_, rfl, by decide, Or.inl (gW_in _ (tb_7 _ (List.mem_of_getElem? (i := 112) rfl)) rfl)⟩
theorem fp_X12_327 : FPk RX12 327 11 44 "I" := ⟨_, rfl, by decide, rfl, rfl, Or.inl (gW_in _ (tb_7 _ (List.mem_of_getElem? (i := 112) rfl)) rfl)⟩
theorem fl_X12_330 : FLk RX12 330 11 45 := ⟨_, rfl, by decide, Or.inl (gW_in _ (tb_7 _ (List.mem_of_getElem? (i := 113) rfl)) rfl)⟩
theorem fp_X12_330 : FPk RX12 330 11 45 "I" := ⟨_, rfl, by decide, rfl, rfl, Or.inl (gW_in _ (tb_7 _ (List.mem_of_getElem? (i := 113) rfl)) rfl)⟩
theorem fl_X12_333 : FLk RX12 333 11 46 := ⟨_, rfl, by decide, Or.inl (gW_in _ (tb_7 _ (List.mem_of_getElem? (i := 114) rfl)) rfl)⟩
theorem fp_X12_333 : FPk RX12 333 11 46 "I" := ⟨_, rfl, by decide, rfl, rfl, Or.inl (gW_in _ (tb_7 _ (List.mem_of_getElem? (i := 114) rfl)) rfl)⟩
theorem fl_X12_336 : FLk RX12 336 11 47 := ⟨_, rfl, by decide, Or.inl (gW_in _ (tb_7 _ (List.mem_of_getElem? (i := 115) rfl)) rfl)⟩
theorem fp_X12_336 : FPk RX12 336 11 47 "I" := ⟨_, rfl, by decide, rfl, rfl, Or.inl (gW_in _ (tb_7 _ (List.mem_of_getElem? (i := 115) rfl)) rfl)⟩
theorem fl_X12_339 : FLk RX12 339 11 48 := ⟨_, rfl, by decide, Or.inl (gW_in _ (tb_7 _ (List.mem_of_getElem? (i := 116) rfl)) rfl)⟩
theorem fp_X12_339 : FPk RX12 339 11 48 "I" := ⟨_, rfl, by decide, rfl, rfl, Or.inl (gW_in _ (tb_7 _ (List.mem_of_getElem? (i := 116) rfl)) rfl)⟩
theorem fl_X12_342 : FLk RX12 342 11 49 := ⟨_, rfl, by decide, Or.inl (gW_in _ (tb_7 _ (List.mem_of_getElem? (i := 117) rfl)) rfl)⟩
theorem fp_X12_342 : FPk RX12 342 11 49 "I" := ⟨_, rfl, by decide, rfl, rfl, Or.inl (gW_in _ (tb_7 _ (List.mem_of_getElem? (i := 117) rfl)) rfl)⟩
theorem fl_X12_345 : FLk RX12 345 11 54 := ⟨_, rfl, by decide, Or.inl (gW_in _ (tb_7 _ (List.mem_of_getElem? (i := 122) rfl)) rfl)⟩
theorem fp_X12_345 : FPk RX12 345 11 54 "I" := ⟨_, rfl, by decide, rfl, rfl, Or.inl (gW_in _ (tb_7 _ (List.mem_of_getElem? (i := 122) rfl)) rfl)⟩
theorem fl_X12_354 : FLk RX12 354 11 53 := ⟨_, rfl, by decide, Or.inl (gW_in _ (tb_7 _ (List.mem_of_getElem? (i := 121) rfl)) rfl)⟩
theorem fp_X12_354 : FPk RX12 354 11 53 "I" := ⟨_, rfl, by decide, rfl, rfl, Or.inl (gW_in _ (tb_7 _ (List.mem_of_getElem? (i := 121) rfl)) rfl)⟩
theorem fl_X12_429 : FLk RX12 429 11 50 := ⟨_, rfl, by decide, Or.inl (gW_in _ (tb_7 _ (List.mem_of_getElem? (i := 118) rfl)) rfl)⟩
theorem fp_X12_429 : FPk RX12 429 11 50 "Z" := ⟨_, rfl, by decide, rfl, rfl, Or.inl (gW_in _ (tb_7 _ (List.mem_of_getElem? (i := 118) rfl)) rfl)⟩
theorem lk_X11_46 : LkV RX11 46 yX8_hasPlaceFor := ⟨Or.inl (gW_in _ (tb_2 _ (List.mem_of_getElem? (i := 137) rfl)) rfl), gW_in _ (tb_2 _ (List.mem_of_getElem? (i := 138) rfl)) rfl, gW_in _ (tb_2 _ (List.mem_of_getElem? (i := 139) rfl)) rfl⟩
theorem lk_X11_50 : LkV RX11 50 yX8_append := ⟨Or.inl (gW_in _ (tb_2 _ (List.mem_of_getElem? (i := 141) rfl)) rfl), gW_in _ (tb_2 _ (List.mem_of_getElem? (i := 142) rfl)) rfl, gW_in _ (tb_2 _ (List.mem_of_getElem? (i := 143) rfl)) rfl⟩
theorem lk_X11_54 : LkV RX11 54 yX8_size := ⟨Or.inl (gW_in _ (tb_2 _ (List.mem_of_getElem? (i := 145) rfl)) rfl), gW_in _ (tb_2 _ (List.mem_of_getElem? (i := 146) rfl)) rfl, gW_in _ (tb_2 _ (List.mem_of_getElem? (i := 147) rfl)) rfl⟩
theorem lk_X11_81 : LkV RX11 81 yX10_size := ⟨Or.inl (gW_in _ (tb_2 _ (List.mem_of_getElem? (i := 212) rfl)) rfl), gW_in _ (tb_2 _ (List.mem_of_getElem? (i := 213) rfl)) rfl, gW_in _ (tb_2 _ (List.mem_of_getElem? (i := 214) rfl)) rfl⟩
theorem lk_X11_89 : LkV RX11 89 yX2_planned := ⟨Or.inl (gW_in _ (tb_2 _ (List.mem_of_getElem? (i := 196) rfl)) rfl), gW_in _ (tb_2 _ (List.mem_of_getElem? (i := 197) rfl)) rfl, gW_in _ (tb_2 _ (List.mem_of_getElem? (i := 198) rfl)) rfl⟩
theorem lk_X11_93 : LkV RX11 93 yX5_size := ⟨Or.inl (gW_in _ (tb_2 _ (List.mem_of_getElem? (i := 200) rfl)) rfl), gW_in _ (tb_2 _ (List.mem_of_getElem? (i := 201) rfl)) rfl, gW_in _ (tb_2 _ (List.mem_of_getElem? (i := 202) rfl)) rfl⟩
theorem lk_X11_94 : LkV RX11 94 yX8_faultCode := ⟨Or.inl (gW_in _ (tb_2 _ (List.mem_of_getElem? (i := 153) rfl)) rfl), gW_in _ (tb_2 _ (List.mem_of_getElem? (i := 154) rfl)) rfl, gW_in _ (tb_2 _ (List.mem_of_getElem? (i := 155) rfl)) rfl⟩
theorem lk_X11_97 : LkV RX11 97 yX8_faultPlace := ⟨Or.inl (gW_in _ (tb_2 _ (List.mem_of_getElem? (i := 157) rfl)) rfl), gW_in _ (tb_2 _ (List.mem_of_getElem? (i := 158) rfl)) rfl, gW_in _ (tb_2 _ (List.mem_of_getElem? (i := 159) rfl)) rfl⟩
theorem lk_X11_125 : LkV RX11 125 yX10_unitAt := ⟨Or.inl (gW_in _ (tb_6 _ (List.mem_of_getElem? (i := 188) rfl)) rfl), gW_in _ (tb_2 _ (List.mem_of_getElem? (i := 170) rfl)) rfl, gW_in _ (tb_2 _ (List.mem_of_getElem? (i := 171) rfl)) rfl⟩
theorem lk_X11_160 : LkV RX11 160 yX10_unitWithAddress := ⟨Or.inl (gW_in _ (tb_2 _ (List.mem_of_getElem? (i := 165) rfl)) rfl), gW_in _ (tb_2 _ (List.mem_of_getElem? (i := 166) rfl)) rfl, gW_in _ (tb_2 _ (List.mem_of_getElem? (i := 167) rfl)) rfl⟩
theorem lk_X11_176 : LkV RX11 176 yX9_is := ⟨Or.inl (gW_in _ (tb_6 _ (List.mem_of_getElem? (i := 189) rfl)) rfl), gW_in _ (tb_4 _ (List.mem_of_getElem? (i := 71) rfl)) rfl, gW_in _ (tb_4 _ (List.mem_of_getElem? (i := 72) rfl)) rfl⟩
theorem lk_X11_184 : LkV RX11 184 yX2_downlink := ⟨Or.inl (gW_in _ (tb_2 _ (List.mem_of_getElem? (i := 181) rfl)) rfl), gW_in _ (tb_2 _ (List.mem_of_getElem? (i := 182) rfl)) rfl, gW_in _ (tb_2 _ (List.mem_of_getElem? (i := 183) rfl)) rfl⟩
theorem lk_X11_188 : LkV RX11 188 yX1_latest := ⟨Or.inl (gW_in _ (tb_2 _ (List.mem_of_getElem? (i := 185) rfl)) rfl), gW_in _ (tb_2 _ (List.mem_of_getElem? (i := 186) rfl)) rfl, gW_in _ (tb_2 _ (List.mem_of_getElem? (i := 187) rfl)) rfl⟩
theorem lk_X11_193 : LkV RX11 193 yX5_itemAt := ⟨Or.inl (gW_in _ (tb_2 _ (List.mem_of_getElem? (i := 204) rfl)) rfl), gW_in _ (tb_2 _ (List.mem_of_getElem? (i := 205) rfl)) rfl, gW_in _ (tb_2 _ (List.mem_of_getElem? (i := 206) rfl)) rfl⟩
theorem lk_X11_210 : LkV RX11 210 yX10_drawsTaken := ⟨Or.inl (gW_in _ (tb_2 _ (List.mem_of_getElem? (i := 216) rfl)) rfl), gW_in _ (tb_2 _ (List.mem_of_getElem? (i := 217) rfl)) rfl, gW_in _ (tb_2 _ (List.mem_of_getElem? (i := 218) rfl)) rfl⟩
theorem lk_X11_213 : LkV RX11 213 yX10_addressNow := ⟨Or.inl (gW_in _ (tb_2 _ (List.mem_of_getElem? (i := 220) rfl)) rfl), gW_in _ (tb_2 _ (List.mem_of_getElem? (i := 221) rfl)) rfl, gW_in _ (tb_2 _ (List.mem_of_getElem? (i := 222) rfl)) rfl⟩
theorem lk_X11_216 : LkV RX11 216 yX10_reserveNow := ⟨Or.inl (gW_in _ (tb_2 _ (List.mem_of_getElem? (i := 224) rfl)) rfl), gW_in _ (tb_2 _ (List.mem_of_getElem? (i := 225) rfl)) rfl, gW_in _ (tb_2 _ (List.mem_of_getElem? (i := 226) rfl)) rfl⟩
theorem lk_X11_219 : LkV RX11 219 yX10_notesTaken := ⟨Or.inl (gW_in _ (tb_2 _ (List.mem_of_getElem? (i := 228) rfl)) rfl), gW_in _ (tb_2 _ (List.mem_of_getElem? (i := 229) rfl)) rfl, gW_in _ (tb_2 _ (List.mem_of_getElem? (i := 230) rfl)) rfl⟩
theorem lk_X11_222 : LkV RX11 222 yX1_byteCount := ⟨Or.inl (gW_in _ (tb_2 _ (List.mem_of_getElem? (i := 232) rfl)) rfl), gW_in _ (tb_2 _ (List.mem_of_getElem? (i := 233) rfl)) rfl, gW_in _ (tb_2 _ (List.mem_of_getElem? (i := 234) rfl)) rfl⟩
theorem lk_X11_225 : LkV RX11 225 yX10_restartsDone := ⟨Or.inl (gW_in _ (tb_2 _ (List.mem_of_getElem? (i := 236) rfl)) rfl), gW_in _ (tb_2 _ (List.mem_of_getElem? (i := 237) rfl)) rfl, gW_in _ (tb_2 _ (List.mem_of_getElem? (i := 238) rfl)) rfl⟩
theorem lk_X11_228 : LkV RX11 228 yX2_steering := ⟨Or.inl (gW_in _ (tb_3 _ (List.mem_of_getElem? (i := 0) rfl)) rfl), gW_in _ (tb_3 _ (List.mem_of_getElem? (i := 1) rfl)) rfl, gW_in _ (tb_3 _ (List.mem_of_getElem? (i := 2) rfl)) rfl⟩
theorem lk_X11_232 : LkV RX11 232 yX7_value := ⟨Or.inl (gW_in _ (tb_3 _ (List.mem_of_getElem? (i := 4) rfl)) rfl), gW_in _ (tb_3 _ (List.mem_of_getElem? (i := 5) rfl)) rfl, gW_in _ (tb_3 _ (List.mem_of_getElem? (i := 6) rfl)) rfl⟩
theorem lk_X11_235 : LkV RX11 235 yX2_gauge := ⟨Or.inl (gW_in _ (tb_3 _ (List.mem_of_getElem? (i := 20) rfl)) rfl), gW_in _ (tb_3 _ (List.mem_of_getElem? (i := 21) rfl)) rfl, gW_in _ (tb_3 _ (List.mem_of_getElem? (i := 22) rfl)) rfl⟩
theorem lk_X11_238 : LkV RX11 238 yX10_has := ⟨Or.inl (gW_in _ (tb_6 _ (List.mem_of_getElem? (i := 187) rfl)) rfl), gW_in _ (tb_2 _ (List.mem_of_getElem? (i := 174) rfl)) rfl, gW_in _ (tb_2 _ (List.mem_of_getElem? (i := 175) rfl)) rfl⟩
theorem lk_X11_243 : LkS RX11 243 yX11_within := ⟨Or.inl (gW_in _ (tb_3 _ (List.mem_of_getElem? (i := 187) rfl)) rfl), gW_in _ (tb_3 _ (List.mem_of_getElem? (i := 188) rfl)) rfl⟩
theorem lk_X11_246 : LkS RX11 246 yJ9_floorMod_7cf53 := ⟨Or.inl (gW_in _ (tb_5 _ (List.mem_of_getElem? (i := 166) rfl)) rfl), gW_in _ (tb_2 _ (List.mem_of_getElem? (i := 190) rfl)) rfl⟩
theorem lk_X0_85 : LkS RX0 85 yX11_within := ⟨Or.inr ⟨"SmallCraft", nW_in _ (tb_4 _ (List.mem_of_getElem? (i := 26) rfl)) rfl⟩, gW_in _ (tb_3 _ (List.mem_of_getElem? (i := 188) rfl)) rfl⟩
theorem lk_X0_89 : LkV RX0 89 yX0_layerOf := ⟨Or.inl (gW_in _ (tb_4 _ (List.mem_of_getElem? (i := 27) rfl)) rfl), gW_in _ (tb_4 _ (List.mem_of_getElem? (i := 28) rfl)) rfl, gW_in _ (tb_4 _ (List.mem_of_getElem? (i := 29) rfl)) rfl⟩
theorem lk_X1_19 : LkS RX1 19 yJ9_floorMod_7cf53 := ⟨Or.inl (gW_in _ (tb_2 _ (List.mem_of_getElem? (i := 189) rfl)) rfl), gW_in _ (tb_2 _ (List.mem_of_getElem? (i := 190) rfl)) rfl⟩
theorem lk_X2_49 : LkV RX2 49 yX7_begin := ⟨Or.inl (gW_in _ (tb_5 _ (List.mem_of_getElem? (i := 2) rfl)) rfl), gW_in _ (tb_5 _ (List.mem_of_getElem? (i := 3) rfl)) rfl, gW_in _ (tb_5 _ (List.mem_of_getElem? (i := 4) rfl)) rfl⟩
theorem lk_X2_52 : LkV RX2 52 yX6_begin := ⟨Or.inl (gW_in _ (tb_5 _ (List.mem_of_getElem? (i := 6) rfl)) rfl), gW_in _ (tb_5 _ (List.mem_of_getElem? (i := 7) rfl)) rfl, gW_in _ (tb_5 _ (List.mem_of_getElem? (i := 8) rfl)) rfl⟩
theorem lk_X2_53 : LkV RX2 53 yX1_begin := ⟨Or.inl (gW_in _ (tb_5 _ (List.mem_of_getElem? (i := 10) rfl)) rfl), gW_in _ (tb_5 _ (List.mem_of_getElem? (i := 11) rfl)) rfl, gW_in _ (tb_5 _ (List.mem_of_getElem? (i := 12) rfl)) rfl⟩
theorem lk_X2_54 : LkV RX2 54 yX5_clear := ⟨Or.inl (gW_in _ (tb_5 _ (List.mem_of_getElem? (i := 14) rfl)) rfl), gW_in _ (tb_5 _ (List.mem_of_getElem? (i := 15) rfl)) rfl, gW_in _ (tb_5 _ (List.mem_of_getElem? (i := 16) rfl)) rfl⟩
theorem lk_X2_79 : LkV RX2 79 yX6_brownoutCount := ⟨Or.inl (gW_in _ (tb_3 _ (List.mem_of_getElem? (i := 24) rfl)) rfl), gW_in _ (tb_3 _ (List.mem_of_getElem? (i := 25) rfl)) rfl, gW_in _ (tb_3 _ (List.mem_of_getElem? (i := 26) rfl)) rfl⟩
theorem lk_X2_83 : LkV RX2 83 yX6_failureCount := ⟨Or.inl (gW_in _ (tb_3 _ (List.mem_of_getElem? (i := 28) rfl)) rfl), gW_in _ (tb_3 _ (List.mem_of_getElem? (i := 29) rfl)) rfl, gW_in _ (tb_3 _ (List.mem_of_getElem? (i := 30) rfl)) rfl⟩
theorem lk_X2_86 : LkV RX2 86 yX6_supplyNow := ⟨Or.inl (gW_in _ (tb_3 _ (List.mem_of_getElem? (i := 32) rfl)) rfl), gW_in _ (tb_3 _ (List.mem_of_getElem? (i := 33) rfl)) rfl, gW_in _ (tb_3 _ (List.mem_of_getElem? (i := 34) rfl)) rfl⟩
theorem lk_X2_89 : LkV RX2 89 yX6_demandNow := ⟨Or.inl (gW_in _ (tb_3 _ (List.mem_of_getElem? (i := 36) rfl)) rfl), gW_in _ (tb_3 _ (List.mem_of_getElem? (i := 37) rfl)) rfl, gW_in _ (tb_3 _ (List.mem_of_getElem? (i := 38) rfl)) rfl⟩
theorem lk_X2_92 : LkS RX2 92 yJ9_floorMod_7cf53 := ⟨Or.inl (gW_in _ (tb_5 _ (List.mem_of_getElem? (i := 130) rfl)) rfl), gW_in _ (tb_2 _ (List.mem_of_getElem? (i := 190) rfl)) rfl⟩
theorem lk_X2_112 : LkS RX2 112 yX11_isMultiple := ⟨Or.inr ⟨"SmallCraft", nW_in _ (tb_5 _ (List.mem_of_getElem? (i := 204) rfl)) rfl⟩, gW_in _ (tb_5 _ (List.mem_of_getElem? (i := 164) rfl)) rfl⟩
theorem lk_X2_123 : LkV RX2 123 yX7_angle := ⟨Or.inl (gW_in _ (tb_5 _ (List.mem_of_getElem? (i := 153) rfl)) rfl), gW_in _ (tb_3 _ (List.mem_of_getElem? (i := 9) rfl)) rfl, gW_in _ (tb_3 _ (List.mem_of_getElem? (i := 10) rfl)) rfl⟩
theorem lk_X2_142 : LkV RX2 142 yX5_size := ⟨Or.inl (gW_in _ (tb_5 _ (List.mem_of_getElem? (i := 138) rfl)) rfl), gW_in _ (tb_2 _ (List.mem_of_getElem? (i := 201) rfl)) rfl, gW_in _ (tb_2 _ (List.mem_of_getElem? (i := 202) rfl)) rfl⟩
theorem lk_X2_145 : LkV RX2 145 yX5_itemAt := ⟨Or.inl (gW_in _ (tb_5 _ (List.mem_of_getElem? (i := 139) rfl)) rfl), gW_in _ (tb_2 _ (List.mem_of_getElem? (i := 205) rfl)) rfl, gW_in _ (tb_2 _ (List.mem_of_getElem? (i := 206) rfl)) rfl⟩
theorem lk_X2_155 : LkV RX2 155 yX2_isDue := ⟨Or.inl (gW_in _ (tb_5 _ (List.mem_of_getElem? (i := 140) rfl)) rfl), gW_in _ (tb_5 _ (List.mem_of_getElem? (i := 142) rfl)) rfl, gW_in _ (tp_4 _ (List.mem_of_getElem? (i := 1) rfl)) rfl⟩
theorem lk_X2_171 : LkV RX2 171 yX2_perform := ⟨Or.inl (gW_in _ (tb_5 _ (List.mem_of_getElem? (i := 167) rfl)) rfl), gW_in _ (tb_5 _ (List.mem_of_getElem? (i := 168) rfl)) rfl, gW_in _ (tb_5 _ (List.mem_of_getElem? (i := 169) rfl)) rfl⟩
theorem lk_X2_178 : LkV RX2 178 yX3_isWatch := ⟨Or.inl (gW_in _ (tb_5 _ (List.mem_of_getElem? (i := 144) rfl)) rfl), gW_in _ (tb_5 _ (List.mem_of_getElem? (i := 145) rfl)) rfl, gW_in _ (tb_5 _ (List.mem_of_getElem? (i := 146) rfl)) rfl⟩
theorem lk_X2_182 : LkV RX2 182 yX2_valueOf := ⟨Or.inl (gW_in _ (tb_5 _ (List.mem_of_getElem? (i := 148) rfl)) rfl), gW_in _ (tb_5 _ (List.mem_of_getElem? (i := 150) rfl)) rfl, gW_in _ (tp_4 _ (List.mem_of_getElem? (i := 2) rfl)) rfl⟩
theorem lk_X2_186 : LkV RX2 186 yX3_hasCome := ⟨Or.inl (gW_in _ (tb_5 _ (List.mem_of_getElem? (i := 155) rfl)) rfl), gW_in _ (tb_5 _ (List.mem_of_getElem? (i := 156) rfl)) rfl, gW_in _ (tb_5 _ (List.mem_of_getElem? (i := 157) rfl)) rfl⟩
theorem lk_X2_190 : LkV RX2 190 yX3_isDueAt := ⟨Or.inl (gW_in _ (tb_5 _ (List.mem_of_getElem? (i := 159) rfl)) rfl), gW_in _ (tb_5 _ (List.mem_of_getElem? (i := 160) rfl)) rfl, gW_in _ (tb_5 _ (List.mem_of_getElem? (i := 161) rfl)) rfl⟩
theorem lk_X2_199 : LkV RX2 199 yX10_unitAt := ⟨Or.inl (gW_in _ (tb_5 _ (List.mem_of_getElem? (i := 152) rfl)) rfl), gW_in _ (tb_2 _ (List.mem_of_getElem? (i := 170) rfl)) rfl, gW_in _ (tb_2 _ (List.mem_of_getElem? (i := 171) rfl)) rfl⟩
theorem lk_X2_210 : LkV RX2 210 yX7_rate := ⟨Or.inl (gW_in _ (tb_5 _ (List.mem_of_getElem? (i := 154) rfl)) rfl), gW_in _ (tb_3 _ (List.mem_of_getElem? (i := 13) rfl)) rfl, gW_in _ (tb_3 _ (List.mem_of_getElem? (i := 14) rfl)) rfl⟩
theorem lk_X2_213 : LkS RX2 213 yX2_switchOn := ⟨Or.inl (gW_in _ (tb_5 _ (List.mem_of_getElem? (i := 171) rfl)) rfl), gW_in _ (tb_5 _ (List.mem_of_getElem? (i := 172) rfl)) rfl⟩
theorem lk_X2_217 : LkS RX2 217 yX2_switchOff := ⟨Or.inl (gW_in _ (tb_5 _ (List.mem_of_getElem? (i := 178) rfl)) rfl), gW_in _ (tb_5 _ (List.mem_of_getElem? (i := 179) rfl)) rfl⟩
theorem lk_X2_220 : LkV RX2 220 yX7_setAim := ⟨Or.inl (gW_in _ (tb_5 _ (List.mem_of_getElem? (i := 182) rfl)) rfl), gW_in _ (tb_5 _ (List.mem_of_getElem? (i := 183) rfl)) rfl, gW_in _ (tb_5 _ (List.mem_of_getElem? (i := 184) rfl)) rfl⟩
theorem lk_X2_223 : LkV RX2 223 yX10_restart := ⟨Or.inl (gW_in _ (tb_5 _ (List.mem_of_getElem? (i := 186) rfl)) rfl), gW_in _ (tb_5 _ (List.mem_of_getElem? (i := 187) rfl)) rfl, gW_in _ (tb_5 _ (List.mem_of_getElem? (i := 188) rfl)) rfl⟩
theorem lk_X2_226 : LkV RX2 226 yX5_stop := ⟨Or.inl (gW_in _ (tb_5 _ (List.mem_of_getElem? (i := 190) rfl)) rfl), gW_in _ (tb_5 _ (List.mem_of_getElem? (i := 191) rfl)) rfl, gW_in _ (tb_5 _ (List.mem_of_getElem? (i := 192) rfl)) rfl⟩
theorem lk_X2_229 : LkV RX2 229 yX9_isWhole := ⟨Or.inl (gW_in _ (tb_5 _ (List.mem_of_getElem? (i := 174) rfl)) rfl), gW_in _ (tb_5 _ (List.mem_of_getElem? (i := 175) rfl)) rfl, gW_in _ (tb_5 _ (List.mem_of_getElem? (i := 176) rfl)) rfl⟩
theorem lk_X2_232 : LkV RX2 232 yX9_is := ⟨Or.inl (gW_in _ (tb_5 _ (List.mem_of_getElem? (i := 181) rfl)) rfl), gW_in _ (tb_4 _ (List.mem_of_getElem? (i := 71) rfl)) rfl, gW_in _ (tb_4 _ (List.mem_of_getElem? (i := 72) rfl)) rfl⟩
theorem lk_X2_235 : LkV RX2 235 yX10_size := ⟨Or.inl (gW_in _ (tb_5 _ (List.mem_of_getElem? (i := 199) rfl)) rfl), gW_in _ (tb_2 _ (List.mem_of_getElem? (i := 213) rfl)) rfl, gW_in _ (tb_2 _ (List.mem_of_getElem? (i := 214) rfl)) rfl⟩
theorem lk_X2_236 : LkV RX2 236 yX9_isOn := ⟨Or.inl (gW_in _ (tb_5 _ (List.mem_of_getElem? (i := 200) rfl)) rfl), gW_in _ (tb_5 _ (List.mem_of_getElem? (i := 201) rfl)) rfl, gW_in _ (tb_5 _ (List.mem_of_getElem? (i := 202) rfl)) rfl⟩
theorem lk_X2_239 : LkV RX2 239 yX2_takeReading := ⟨Or.inl (gW_in _ (tb_5 _ (List.mem_of_getElem? (i := 205) rfl)) rfl), gW_in _ (tb_5 _ (List.mem_of_getElem? (i := 207) rfl)) rfl, gW_in _ (tp_4 _ (List.mem_of_getElem? (i := 4) rfl)) rfl⟩
theorem lk_X2_243 : LkS RX2 243 yX11_off := ⟨Or.inr ⟨"SmallCraft", nW_in _ (tb_5 _ (List.mem_of_getElem? (i := 209) rfl)) rfl⟩, gW_in _ (tb_5 _ (List.mem_of_getElem? (i := 210) rfl)) rfl⟩
theorem lk_X2_246 : LkS RX2 246 yJ9_abs_0f7a4 := ⟨Or.inl (gW_in _ (tb_5 _ (List.mem_of_getElem? (i := 212) rfl)) rfl), gW_in _ (tb_5 _ (List.mem_of_getElem? (i := 213) rfl)) rfl⟩
theorem lk_X2_249 : LkS RX2 249 yX2_keepPicture := ⟨Or.inl (gW_in _ (tb_5 _ (List.mem_of_getElem? (i := 215) rfl)) rfl), gW_in _ (tb_5 _ (List.mem_of_getElem? (i := 216) rfl)) rfl⟩
theorem lk_X2_253 : LkV RX2 253 yX9_hasRoomFor := ⟨Or.inl (gW_in _ (tb_5 _ (List.mem_of_getElem? (i := 218) rfl)) rfl), gW_in _ (tb_5 _ (List.mem_of_getElem? (i := 219) rfl)) rfl, gW_in _ (tb_5 _ (List.mem_of_getElem? (i := 220) rfl)) rfl⟩
theorem lk_X2_256 : LkV RX2 256 yX9_keepByte := ⟨Or.inl (gW_in _ (tb_5 _ (List.mem_of_getElem? (i := 222) rfl)) rfl), gW_in _ (tb_5 _ (List.mem_of_getElem? (i := 223) rfl)) rfl, gW_in _ (tb_5 _ (List.mem_of_getElem? (i := 224) rfl)) rfl⟩
theorem lk_X2_259 : LkV RX2 259 yX2_fillFrame := ⟨Or.inl (gW_in _ (tb_6 _ (List.mem_of_getElem? (i := 131) rfl)) rfl), gW_in _ (tb_6 _ (List.mem_of_getElem? (i := 133) rfl)) rfl, gW_in _ (tp_5 _ (List.mem_of_getElem? (i := 12) rfl)) rfl⟩
theorem lk_X2_262 : LkV RX2 262 yX2_charge := ⟨Or.inl (gW_in _ (tb_6 _ (List.mem_of_getElem? (i := 135) rfl)) rfl), gW_in _ (tb_6 _ (List.mem_of_getElem? (i := 137) rfl)) rfl, gW_in _ (tp_5 _ (List.mem_of_getElem? (i := 13) rfl)) rfl⟩
theorem lk_X2_265 : LkV RX2 265 yX2_countWith := ⟨Or.inl (gW_in _ (tb_6 _ (List.mem_of_getElem? (i := 139) rfl)) rfl), gW_in _ (tb_6 _ (List.mem_of_getElem? (i := 141) rfl)) rfl, gW_in _ (tp_5 _ (List.mem_of_getElem? (i := 14) rfl)) rfl⟩
theorem lk_X2_268 : LkV RX2 268 yX2_checkOf := ⟨Or.inl (gW_in _ (tb_6 _ (List.mem_of_getElem? (i := 147) rfl)) rfl), gW_in _ (tb_6 _ (List.mem_of_getElem? (i := 149) rfl)) rfl, gW_in _ (tp_5 _ (List.mem_of_getElem? (i := 15) rfl)) rfl⟩
theorem lk_X2_271 : LkV RX2 271 yX9_value := ⟨Or.inl (gW_in _ (tb_6 _ (List.mem_of_getElem? (i := 143) rfl)) rfl), gW_in _ (tb_6 _ (List.mem_of_getElem? (i := 144) rfl)) rfl, gW_in _ (tb_6 _ (List.mem_of_getElem? (i := 145) rfl)) rfl⟩
theorem lk_X2_274 : LkS RX2 274 yX11_within := ⟨Or.inr ⟨"SmallCraft", nW_in _ (tb_6 _ (List.mem_of_getElem? (i := 155) rfl)) rfl⟩, gW_in _ (tb_3 _ (List.mem_of_getElem? (i := 188) rfl)) rfl⟩
theorem lk_X2_277 : LkV RX2 277 yX1_send := ⟨Or.inl (gW_in _ (tb_6 _ (List.mem_of_getElem? (i := 156) rfl)) rfl), gW_in _ (tb_6 _ (List.mem_of_getElem? (i := 157) rfl)) rfl, gW_in _ (tb_6 _ (List.mem_of_getElem? (i := 158) rfl)) rfl⟩
theorem lk_X2_280 : LkV RX2 280 yX2_sendKept := ⟨Or.inl (gW_in _ (tb_6 _ (List.mem_of_getElem? (i := 160) rfl)) rfl), gW_in _ (tb_6 _ (List.mem_of_getElem? (i := 162) rfl)) rfl, gW_in _ (tp_6 _ (List.mem_of_getElem? (i := 1) rfl)) rfl⟩
theorem lk_X2_283 : LkV RX2 283 yX9_keptByte := ⟨Or.inl (gW_in _ (tb_6 _ (List.mem_of_getElem? (i := 164) rfl)) rfl), gW_in _ (tb_6 _ (List.mem_of_getElem? (i := 165) rfl)) rfl, gW_in _ (tb_6 _ (List.mem_of_getElem? (i := 166) rfl)) rfl⟩
theorem lk_X2_286 : LkV RX2 286 yX9_dropFirst := ⟨Or.inl (gW_in _ (tb_6 _ (List.mem_of_getElem? (i := 168) rfl)) rfl), gW_in _ (tb_6 _ (List.mem_of_getElem? (i := 169) rfl)) rfl, gW_in _ (tb_6 _ (List.mem_of_getElem? (i := 170) rfl)) rfl⟩
theorem lk_X3_46 : LkS RX3 46 yX11_isMultiple := ⟨Or.inr ⟨"SmallCraft", nW_in _ (tb_5 _ (List.mem_of_getElem? (i := 163) rfl)) rfl⟩, gW_in _ (tb_5 _ (List.mem_of_getElem? (i := 164) rfl)) rfl⟩
theorem lk_X5_26 : LkV RX5 26 yX5_itemAt := ⟨Or.inl (gW_in _ (tb_5 _ (List.mem_of_getElem? (i := 194) rfl)) rfl), gW_in _ (tb_2 _ (List.mem_of_getElem? (i := 205) rfl)) rfl, gW_in _ (tb_2 _ (List.mem_of_getElem? (i := 206) rfl)) rfl⟩
theorem lk_X5_34 : LkV RX5 34 yX8_next := ⟨Or.inl (gW_in _ (tb_5 _ (List.mem_of_getElem? (i := 29) rfl)) rfl), gW_in _ (tb_3 _ (List.mem_of_getElem? (i := 126) rfl)) rfl, gW_in _ (tb_3 _ (List.mem_of_getElem? (i := 127) rfl)) rfl⟩
theorem lk_X5_57 : LkV RX5 57 yX8_refuse := ⟨Or.inl (gW_in _ (tb_5 _ (List.mem_of_getElem? (i := 39) rfl)) rfl), gW_in _ (tb_3 _ (List.mem_of_getElem? (i := 229) rfl)) rfl, gW_in _ (tb_3 _ (List.mem_of_getElem? (i := 230) rfl)) rfl⟩
theorem lk_X5_70 : LkV RX5 70 yX8_number := ⟨Or.inl (gW_in _ (tb_5 _ (List.mem_of_getElem? (i := 49) rfl)) rfl), gW_in _ (tb_4 _ (List.mem_of_getElem? (i := 19) rfl)) rfl, gW_in _ (tb_4 _ (List.mem_of_getElem? (i := 20) rfl)) rfl⟩
theorem lk_X5_119 : LkV RX5 119 yX8_isSign := ⟨Or.inl (gW_in _ (tb_5 _ (List.mem_of_getElem? (i := 80) rfl)) rfl), gW_in _ (tb_4 _ (List.mem_of_getElem? (i := 36) rfl)) rfl, gW_in _ (tb_4 _ (List.mem_of_getElem? (i := 37) rfl)) rfl⟩
theorem lk_X5_122 : LkV RX5 122 yX8_takeNumber := ⟨Or.inl (gW_in _ (tb_5 _ (List.mem_of_getElem? (i := 81) rfl)) rfl), gW_in _ (tb_4 _ (List.mem_of_getElem? (i := 13) rfl)) rfl, gW_in _ (tb_4 _ (List.mem_of_getElem? (i := 14) rfl)) rfl⟩
theorem lk_X5_124 : LkV RX5 124 yX8_isAnyWord := ⟨Or.inl (gW_in _ (tb_5 _ (List.mem_of_getElem? (i := 68) rfl)) rfl), gW_in _ (tb_3 _ (List.mem_of_getElem? (i := 233) rfl)) rfl, gW_in _ (tb_3 _ (List.mem_of_getElem? (i := 234) rfl)) rfl⟩
theorem lk_X5_127 : LkV RX5 127 yX8_wordRead := ⟨Or.inl (gW_in _ (tb_5 _ (List.mem_of_getElem? (i := 69) rfl)) rfl), gW_in _ (tb_3 _ (List.mem_of_getElem? (i := 237) rfl)) rfl, gW_in _ (tb_3 _ (List.mem_of_getElem? (i := 238) rfl)) rfl⟩
theorem lk_X5_131 : LkV RX5 131 yX10_unitTitled := ⟨Or.inl (gW_in _ (tb_5 _ (List.mem_of_getElem? (i := 70) rfl)) rfl), gW_in _ (tb_5 _ (List.mem_of_getElem? (i := 71) rfl)) rfl, gW_in _ (tb_5 _ (List.mem_of_getElem? (i := 72) rfl)) rfl⟩
theorem lk_X5_137 : LkV RX5 137 yX10_unitAt := ⟨Or.inl (gW_in _ (tb_5 _ (List.mem_of_getElem? (i := 74) rfl)) rfl), gW_in _ (tb_2 _ (List.mem_of_getElem? (i := 170) rfl)) rfl, gW_in _ (tb_2 _ (List.mem_of_getElem? (i := 171) rfl)) rfl⟩
theorem lk_X5_141 : LkV RX5 141 yX9_is := ⟨Or.inl (gW_in _ (tb_5 _ (List.mem_of_getElem? (i := 75) rfl)) rfl), gW_in _ (tb_4 _ (List.mem_of_getElem? (i := 71) rfl)) rfl, gW_in _ (tb_4 _ (List.mem_of_getElem? (i := 72) rfl)) rfl⟩
theorem lk_X6_32 : LkV RX6 32 yX10_size := ⟨Or.inl (gW_in _ (tb_6 _ (List.mem_of_getElem? (i := 55) rfl)) rfl), gW_in _ (tb_2 _ (List.mem_of_getElem? (i := 213) rfl)) rfl, gW_in _ (tb_2 _ (List.mem_of_getElem? (i := 214) rfl)) rfl⟩
theorem lk_X6_38 : LkV RX6 38 yX10_unitAt := ⟨Or.inl (gW_in _ (tb_6 _ (List.mem_of_getElem? (i := 56) rfl)) rfl), gW_in _ (tb_2 _ (List.mem_of_getElem? (i := 170) rfl)) rfl, gW_in _ (tb_2 _ (List.mem_of_getElem? (i := 171) rfl)) rfl⟩
theorem lk_X6_42 : LkV RX6 42 yX9_isWhole := ⟨Or.inl (gW_in _ (tb_6 _ (List.mem_of_getElem? (i := 57) rfl)) rfl), gW_in _ (tb_5 _ (List.mem_of_getElem? (i := 175) rfl)) rfl, gW_in _ (tb_5 _ (List.mem_of_getElem? (i := 176) rfl)) rfl⟩
theorem lk_X6_48 : LkV RX6 48 yX9_is := ⟨Or.inl (gW_in _ (tb_6 _ (List.mem_of_getElem? (i := 58) rfl)) rfl), gW_in _ (tb_4 _ (List.mem_of_getElem? (i := 71) rfl)) rfl, gW_in _ (tb_4 _ (List.mem_of_getElem? (i := 72) rfl)) rfl⟩
theorem lk_X6_59 : LkV RX6 59 yX9_isOn := ⟨Or.inl (gW_in _ (tb_6 _ (List.mem_of_getElem? (i := 74) rfl)) rfl), gW_in _ (tb_5 _ (List.mem_of_getElem? (i := 201) rfl)) rfl, gW_in _ (tb_5 _ (List.mem_of_getElem? (i := 202) rfl)) rfl⟩
theorem lk_X6_62 : LkV RX6 62 yX9_need := ⟨Or.inl (gW_in _ (tb_6 _ (List.mem_of_getElem? (i := 75) rfl)) rfl), gW_in _ (tb_4 _ (List.mem_of_getElem? (i := 118) rfl)) rfl, gW_in _ (tb_4 _ (List.mem_of_getElem? (i := 119) rfl)) rfl⟩
theorem lk_X6_75 : LkS RX6 75 yX11_isMultiple := ⟨Or.inr ⟨"SmallCraft", nW_in _ (tb_6 _ (List.mem_of_getElem? (i := 63) rfl)) rfl⟩, gW_in _ (tb_5 _ (List.mem_of_getElem? (i := 164) rfl)) rfl⟩
theorem lk_X6_83 : LkS RX6 83 yX11_limit := ⟨Or.inr ⟨"SmallCraft", nW_in _ (tb_6 _ (List.mem_of_getElem? (i := 69) rfl)) rfl⟩, gW_in _ (tb_6 _ (List.mem_of_getElem? (i := 12) rfl)) rfl⟩
theorem lk_X6_92 : LkS RX6 92 yJ9_abs_0f7a4 := ⟨Or.inl (gW_in _ (tb_6 _ (List.mem_of_getElem? (i := 71) rfl)) rfl), gW_in _ (tb_5 _ (List.mem_of_getElem? (i := 213) rfl)) rfl⟩
theorem lk_X6_98 : LkS RX6 98 yJ9_min_7cf53 := ⟨Or.inl (gW_in _ (tb_6 _ (List.mem_of_getElem? (i := 80) rfl)) rfl), gW_in _ (tb_6 _ (List.mem_of_getElem? (i := 81) rfl)) rfl⟩
theorem lk_X6_101 : LkS RX6 101 yJ9_max_7cf53 := ⟨Or.inl (gW_in _ (tb_6 _ (List.mem_of_getElem? (i := 83) rfl)) rfl), gW_in _ (tb_4 _ (List.mem_of_getElem? (i := 99) rfl)) rfl⟩
theorem lk_X6_104 : LkV RX6 104 yX6_pour := ⟨Or.inl (gW_in _ (tb_6 _ (List.mem_of_getElem? (i := 92) rfl)) rfl), gW_in _ (tb_6 _ (List.mem_of_getElem? (i := 94) rfl)) rfl, gW_in _ (tp_5 _ (List.mem_of_getElem? (i := 4) rfl)) rfl⟩
theorem lk_X6_108 : LkV RX6 108 yX6_heatAlone := ⟨Or.inl (gW_in _ (tb_6 _ (List.mem_of_getElem? (i := 100) rfl)) rfl), gW_in _ (tb_6 _ (List.mem_of_getElem? (i := 102) rfl)) rfl, gW_in _ (tp_5 _ (List.mem_of_getElem? (i := 5) rfl)) rfl⟩
theorem lk_X6_111 : LkV RX6 111 yX6_fromNeighbour := ⟨Or.inl (gW_in _ (tb_6 _ (List.mem_of_getElem? (i := 105) rfl)) rfl), gW_in _ (tb_6 _ (List.mem_of_getElem? (i := 107) rfl)) rfl, gW_in _ (tp_5 _ (List.mem_of_getElem? (i := 6) rfl)) rfl⟩
theorem lk_X6_114 : LkV RX6 114 yX6_leadHeat := ⟨Or.inl (gW_in _ (tb_6 _ (List.mem_of_getElem? (i := 110) rfl)) rfl), gW_in _ (tb_6 _ (List.mem_of_getElem? (i := 112) rfl)) rfl, gW_in _ (tp_5 _ (List.mem_of_getElem? (i := 7) rfl)) rfl⟩
theorem lk_X6_118 : LkV RX6 118 yX6_breakUnits := ⟨Or.inl (gW_in _ (tb_6 _ (List.mem_of_getElem? (i := 118) rfl)) rfl), gW_in _ (tb_6 _ (List.mem_of_getElem? (i := 120) rfl)) rfl, gW_in _ (tp_5 _ (List.mem_of_getElem? (i := 9) rfl)) rfl⟩
theorem lk_X6_121 : LkV RX6 121 yX6_switchThermos := ⟨Or.inl (gW_in _ (tb_6 _ (List.mem_of_getElem? (i := 123) rfl)) rfl), gW_in _ (tb_6 _ (List.mem_of_getElem? (i := 125) rfl)) rfl, gW_in _ (tp_5 _ (List.mem_of_getElem? (i := 10) rfl)) rfl⟩
theorem lk_X6_124 : LkV RX6 124 yX9_mass := ⟨Or.inl (gW_in _ (tb_6 _ (List.mem_of_getElem? (i := 104) rfl)) rfl), gW_in _ (tb_4 _ (List.mem_of_getElem? (i := 91) rfl)) rfl, gW_in _ (tb_4 _ (List.mem_of_getElem? (i := 92) rfl)) rfl⟩
theorem lk_X6_127 : LkV RX6 127 yX10_has := ⟨Or.inl (gW_in _ (tb_6 _ (List.mem_of_getElem? (i := 109) rfl)) rfl), gW_in _ (tb_2 _ (List.mem_of_getElem? (i := 174) rfl)) rfl, gW_in _ (tb_2 _ (List.mem_of_getElem? (i := 175) rfl)) rfl⟩
theorem lk_X6_130 : LkV RX6 130 yX6_addHeat := ⟨Or.inl (gW_in _ (tb_6 _ (List.mem_of_getElem? (i := 114) rfl)) rfl), gW_in _ (tb_6 _ (List.mem_of_getElem? (i := 116) rfl)) rfl, gW_in _ (tp_5 _ (List.mem_of_getElem? (i := 8) rfl)) rfl⟩
theorem lk_X6_134 : LkS RX6 134 yX11_within := ⟨Or.inr ⟨"SmallCraft", nW_in _ (tb_6 _ (List.mem_of_getElem? (i := 122) rfl)) rfl⟩, gW_in _ (tb_3 _ (List.mem_of_getElem? (i := 188) rfl)) rfl⟩
theorem lk_X7_25 : LkV RX7 25 yX7_angle := ⟨Or.inl (gW_in _ (tb_3 _ (List.mem_of_getElem? (i := 8) rfl)) rfl), gW_in _ (tb_3 _ (List.mem_of_getElem? (i := 9) rfl)) rfl, gW_in _ (tb_3 _ (List.mem_of_getElem? (i := 10) rfl)) rfl⟩
theorem lk_X7_29 : LkV RX7 29 yX7_rate := ⟨Or.inl (gW_in _ (tb_3 _ (List.mem_of_getElem? (i := 12) rfl)) rfl), gW_in _ (tb_3 _ (List.mem_of_getElem? (i := 13) rfl)) rfl, gW_in _ (tb_3 _ (List.mem_of_getElem? (i := 14) rfl)) rfl⟩
theorem lk_X7_32 : LkV RX7 32 yX7_aim := ⟨Or.inl (gW_in _ (tb_3 _ (List.mem_of_getElem? (i := 16) rfl)) rfl), gW_in _ (tb_3 _ (List.mem_of_getElem? (i := 17) rfl)) rfl, gW_in _ (tb_3 _ (List.mem_of_getElem? (i := 18) rfl)) rfl⟩
theorem lk_X7_35 : LkV RX7 35 yX7_error := ⟨Or.inl (gW_in _ (tb_5 _ (List.mem_of_getElem? (i := 235) rfl)) rfl), gW_in _ (tb_5 _ (List.mem_of_getElem? (i := 237) rfl)) rfl, gW_in _ (tp_4 _ (List.mem_of_getElem? (i := 6) rfl)) rfl⟩
theorem lk_X7_39 : LkV RX7 39 yX7_measuredRate := ⟨Or.inl (gW_in _ (tb_6 _ (List.mem_of_getElem? (i := 7) rfl)) rfl), gW_in _ (tb_6 _ (List.mem_of_getElem? (i := 9) rfl)) rfl, gW_in _ (tp_4 _ (List.mem_of_getElem? (i := 8) rfl)) rfl⟩
theorem lk_X7_42 : LkS RX7 42 yX11_limit := ⟨Or.inr ⟨"SmallCraft", nW_in _ (tb_6 _ (List.mem_of_getElem? (i := 11) rfl)) rfl⟩, gW_in _ (tb_6 _ (List.mem_of_getElem? (i := 12) rfl)) rfl⟩
theorem lk_X7_46 : LkV RX7 46 yX7_spinWheels := ⟨Or.inl (gW_in _ (tb_6 _ (List.mem_of_getElem? (i := 14) rfl)) rfl), gW_in _ (tb_6 _ (List.mem_of_getElem? (i := 16) rfl)) rfl, gW_in _ (tp_4 _ (List.mem_of_getElem? (i := 9) rfl)) rfl⟩
theorem lk_X7_49 : LkS RX7 49 yX11_isMultiple := ⟨Or.inr ⟨"SmallCraft", nW_in _ (tb_6 _ (List.mem_of_getElem? (i := 22) rfl)) rfl⟩, gW_in _ (tb_5 _ (List.mem_of_getElem? (i := 164) rfl)) rfl⟩
theorem lk_X7_53 : LkV RX7 53 yX7_driveCoils := ⟨Or.inl (gW_in _ (tb_6 _ (List.mem_of_getElem? (i := 23) rfl)) rfl), gW_in _ (tb_6 _ (List.mem_of_getElem? (i := 25) rfl)) rfl, gW_in _ (tp_4 _ (List.mem_of_getElem? (i := 11) rfl)) rfl⟩
theorem lk_X7_57 : LkV RX7 57 yX7_unloadWheels := ⟨Or.inl (gW_in _ (tb_6 _ (List.mem_of_getElem? (i := 27) rfl)) rfl), gW_in _ (tb_6 _ (List.mem_of_getElem? (i := 29) rfl)) rfl, gW_in _ (tp_4 _ (List.mem_of_getElem? (i := 12) rfl)) rfl⟩
theorem lk_X7_60 : LkS RX7 60 yX11_off := ⟨Or.inr ⟨"SmallCraft", nW_in _ (tb_5 _ (List.mem_of_getElem? (i := 239) rfl)) rfl⟩, gW_in _ (tb_5 _ (List.mem_of_getElem? (i := 210) rfl)) rfl⟩
theorem lk_X7_63 : LkV RX7 63 yX7_sunError := ⟨Or.inl (gW_in _ (tb_6 _ (List.mem_of_getElem? (i := 0) rfl)) rfl), gW_in _ (tb_6 _ (List.mem_of_getElem? (i := 2) rfl)) rfl, gW_in _ (tp_4 _ (List.mem_of_getElem? (i := 7) rfl)) rfl⟩
theorem lk_X7_67 : LkV RX7 67 yX10_size := ⟨Or.inl (gW_in _ (tb_6 _ (List.mem_of_getElem? (i := 4) rfl)) rfl), gW_in _ (tb_2 _ (List.mem_of_getElem? (i := 213) rfl)) rfl, gW_in _ (tb_2 _ (List.mem_of_getElem? (i := 214) rfl)) rfl⟩
theorem lk_X7_72 : LkV RX7 72 yX10_unitAt := ⟨Or.inl (gW_in _ (tb_6 _ (List.mem_of_getElem? (i := 5) rfl)) rfl), gW_in _ (tb_2 _ (List.mem_of_getElem? (i := 170) rfl)) rfl, gW_in _ (tb_2 _ (List.mem_of_getElem? (i := 171) rfl)) rfl⟩
theorem lk_X7_76 : LkV RX7 76 yX9_isOn := ⟨Or.inl (gW_in _ (tb_6 _ (List.mem_of_getElem? (i := 6) rfl)) rfl), gW_in _ (tb_5 _ (List.mem_of_getElem? (i := 201) rfl)) rfl, gW_in _ (tb_5 _ (List.mem_of_getElem? (i := 202) rfl)) rfl⟩
theorem lk_X7_85 : LkV RX7 85 yX7_speedUp := ⟨Or.inl (gW_in _ (tb_6 _ (List.mem_of_getElem? (i := 18) rfl)) rfl), gW_in _ (tb_6 _ (List.mem_of_getElem? (i := 20) rfl)) rfl, gW_in _ (tp_4 _ (List.mem_of_getElem? (i := 10) rfl)) rfl⟩
theorem lk_X7_88 : LkS RX7 88 yJ9_abs_0f7a4 := ⟨Or.inl (gW_in _ (tb_6 _ (List.mem_of_getElem? (i := 31) rfl)) rfl), gW_in _ (tb_5 _ (List.mem_of_getElem? (i := 213) rfl)) rfl⟩
theorem lk_X7_93 : LkV RX7 93 yX7_readyJet := ⟨Or.inl (gW_in _ (tb_6 _ (List.mem_of_getElem? (i := 32) rfl)) rfl), gW_in _ (tb_6 _ (List.mem_of_getElem? (i := 34) rfl)) rfl, gW_in _ (tp_4 _ (List.mem_of_getElem? (i := 13) rfl)) rfl⟩
theorem lk_X7_96 : LkV RX7 96 yX7_unload := ⟨Or.inl (gW_in _ (tb_6 _ (List.mem_of_getElem? (i := 42) rfl)) rfl), gW_in _ (tb_6 _ (List.mem_of_getElem? (i := 44) rfl)) rfl, gW_in _ (tp_4 _ (List.mem_of_getElem? (i := 15) rfl)) rfl⟩
theorem lk_X7_100 : LkV RX7 100 yX7_hasGas := ⟨Or.inl (gW_in _ (tb_6 _ (List.mem_of_getElem? (i := 36) rfl)) rfl), gW_in _ (tb_6 _ (List.mem_of_getElem? (i := 38) rfl)) rfl, gW_in _ (tp_4 _ (List.mem_of_getElem? (i := 14) rfl)) rfl⟩
theorem lk_X7_104 : LkV RX7 104 yX9_is := ⟨Or.inl (gW_in _ (tb_6 _ (List.mem_of_getElem? (i := 41) rfl)) rfl), gW_in _ (tb_4 _ (List.mem_of_getElem? (i := 71) rfl)) rfl, gW_in _ (tb_4 _ (List.mem_of_getElem? (i := 72) rfl)) rfl⟩
theorem lk_X7_107 : LkV RX7 107 yX9_isWhole := ⟨Or.inl (gW_in _ (tb_6 _ (List.mem_of_getElem? (i := 40) rfl)) rfl), gW_in _ (tb_5 _ (List.mem_of_getElem? (i := 175) rfl)) rfl, gW_in _ (tb_5 _ (List.mem_of_getElem? (i := 176) rfl)) rfl⟩
theorem lk_X7_110 : LkS RX7 110 yJ9_floorMod_7cf53 := ⟨Or.inl (gW_in _ (tb_6 _ (List.mem_of_getElem? (i := 50) rfl)) rfl), gW_in _ (tb_2 _ (List.mem_of_getElem? (i := 190) rfl)) rfl⟩
theorem lk_X8_57 : LkV RX8 57 yX8_next := ⟨Or.inl (gW_in _ (tb_4 _ (List.mem_of_getElem? (i := 16) rfl)) rfl), gW_in _ (tb_3 _ (List.mem_of_getElem? (i := 126) rfl)) rfl, gW_in _ (tb_3 _ (List.mem_of_getElem? (i := 127) rfl)) rfl⟩
theorem lk_X8_60 : LkV RX8 60 yX8_refuse := ⟨Or.inl (gW_in _ (tb_4 _ (List.mem_of_getElem? (i := 17) rfl)) rfl), gW_in _ (tb_3 _ (List.mem_of_getElem? (i := 229) rfl)) rfl, gW_in _ (tb_3 _ (List.mem_of_getElem? (i := 230) rfl)) rfl⟩
theorem lk_X8_64 : LkS RX8 64 yX11_within := ⟨Or.inr ⟨"SmallCraft", nW_in _ (tb_5 _ (List.mem_of_getElem? (i := 48) rfl)) rfl⟩, gW_in _ (tb_3 _ (List.mem_of_getElem? (i := 188) rfl)) rfl⟩
theorem lk_X8_68 : LkV RX8 68 yX8_isSign := ⟨Or.inl (gW_in _ (tb_4 _ (List.mem_of_getElem? (i := 35) rfl)) rfl), gW_in _ (tb_4 _ (List.mem_of_getElem? (i := 36) rfl)) rfl, gW_in _ (tb_4 _ (List.mem_of_getElem? (i := 37) rfl)) rfl⟩
theorem lk_X8_71 : LkV RX8 71 yX8_byteAt := ⟨Or.inl (gW_in _ (tb_3 _ (List.mem_of_getElem? (i := 129) rfl)) rfl), gW_in _ (tb_3 _ (List.mem_of_getElem? (i := 131) rfl)) rfl, gW_in _ (tp_1 _ (List.mem_of_getElem? (i := 1) rfl)) rfl⟩
theorem lk_X8_75 : LkS RX8 75 yX8_isBlank := ⟨Or.inl (gW_in _ (tb_3 _ (List.mem_of_getElem? (i := 133) rfl)) rfl), gW_in _ (tb_3 _ (List.mem_of_getElem? (i := 134) rfl)) rfl⟩
theorem lk_X8_78 : LkS RX8 78 yX8_isLetter := ⟨Or.inl (gW_in _ (tb_3 _ (List.mem_of_getElem? (i := 136) rfl)) rfl), gW_in _ (tb_3 _ (List.mem_of_getElem? (i := 137) rfl)) rfl⟩
theorem lk_X8_81 : LkV RX8 81 yX8_readWord := ⟨Or.inl (gW_in _ (tb_3 _ (List.mem_of_getElem? (i := 139) rfl)) rfl), gW_in _ (tb_3 _ (List.mem_of_getElem? (i := 141) rfl)) rfl, gW_in _ (tp_1 _ (List.mem_of_getElem? (i := 2) rfl)) rfl⟩
theorem lk_X8_84 : LkS RX8 84 yX8_isDigit := ⟨Or.inl (gW_in _ (tb_3 _ (List.mem_of_getElem? (i := 150) rfl)) rfl), gW_in _ (tb_3 _ (List.mem_of_getElem? (i := 151) rfl)) rfl⟩
theorem lk_X8_87 : LkV RX8 87 yX8_readNumber := ⟨Or.inl (gW_in _ (tb_3 _ (List.mem_of_getElem? (i := 153) rfl)) rfl), gW_in _ (tb_3 _ (List.mem_of_getElem? (i := 155) rfl)) rfl, gW_in _ (tp_1 _ (List.mem_of_getElem? (i := 4) rfl)) rfl⟩
theorem lk_X8_90 : LkV RX8 90 yX8_spoil := ⟨Or.inl (gW_in _ (tb_3 _ (List.mem_of_getElem? (i := 146) rfl)) rfl), gW_in _ (tb_3 _ (List.mem_of_getElem? (i := 148) rfl)) rfl, gW_in _ (tp_1 _ (List.mem_of_getElem? (i := 3) rfl)) rfl⟩
theorem lk_X8_93 : LkS RX8 93 yX8_isLetterOrDigit := ⟨Or.inl (gW_in _ (tb_3 _ (List.mem_of_getElem? (i := 143) rfl)) rfl), gW_in _ (tb_3 _ (List.mem_of_getElem? (i := 144) rfl)) rfl⟩
theorem lk_X9_62 : LkV RX9 62 yX9_is := ⟨Or.inl (gW_in _ (tb_4 _ (List.mem_of_getElem? (i := 70) rfl)) rfl), gW_in _ (tb_4 _ (List.mem_of_getElem? (i := 71) rfl)) rfl, gW_in _ (tb_4 _ (List.mem_of_getElem? (i := 72) rfl)) rfl⟩
theorem lk_X9_72 : LkS RX9 72 yX11_within := ⟨Or.inr ⟨"SmallCraft", nW_in _ (tb_7 _ (List.mem_of_getElem? (i := 15) rfl)) rfl⟩, gW_in _ (tb_3 _ (List.mem_of_getElem? (i := 188) rfl)) rfl⟩
theorem lk_X9_76 : LkV RX9 76 yX9_mass := ⟨Or.inl (gW_in _ (tb_7 _ (List.mem_of_getElem? (i := 21) rfl)) rfl), gW_in _ (tb_4 _ (List.mem_of_getElem? (i := 91) rfl)) rfl, gW_in _ (tb_4 _ (List.mem_of_getElem? (i := 92) rfl)) rfl⟩
theorem lk_X9_80 : LkV RX9 80 yX9_span := ⟨Or.inl (gW_in _ (tb_7 _ (List.mem_of_getElem? (i := 22) rfl)) rfl), gW_in _ (tb_4 _ (List.mem_of_getElem? (i := 95) rfl)) rfl, gW_in _ (tb_4 _ (List.mem_of_getElem? (i := 96) rfl)) rfl⟩
theorem lk_X9_83 : LkV RX9 83 yX9_need := ⟨Or.inl (gW_in _ (tb_7 _ (List.mem_of_getElem? (i := 23) rfl)) rfl), gW_in _ (tb_4 _ (List.mem_of_getElem? (i := 118) rfl)) rfl, gW_in _ (tb_4 _ (List.mem_of_getElem? (i := 119) rfl)) rfl⟩
theorem lk_X9_86 : LkV RX9 86 yX9_test := ⟨Or.inl (gW_in _ (tb_7 _ (List.mem_of_getElem? (i := 24) rfl)) rfl), gW_in _ (tb_4 _ (List.mem_of_getElem? (i := 102) rfl)) rfl, gW_in _ (tb_4 _ (List.mem_of_getElem? (i := 103) rfl)) rfl⟩
theorem lk_X9_89 : LkV RX9 89 yX9_channels := ⟨Or.inl (gW_in _ (tb_7 _ (List.mem_of_getElem? (i := 25) rfl)) rfl), gW_in _ (tb_4 _ (List.mem_of_getElem? (i := 150) rfl)) rfl, gW_in _ (tb_4 _ (List.mem_of_getElem? (i := 151) rfl)) rfl⟩
theorem lk_X9_92 : LkV RX9 92 yX9_push := ⟨Or.inl (gW_in _ (tb_7 _ (List.mem_of_getElem? (i := 26) rfl)) rfl), gW_in _ (tb_4 _ (List.mem_of_getElem? (i := 178) rfl)) rfl, gW_in _ (tb_4 _ (List.mem_of_getElem? (i := 179) rfl)) rfl⟩
theorem lk_X9_95 : LkS RX9 95 yJ9_floorMod_7cf53 := ⟨Or.inl (gW_in _ (tb_5 _ (List.mem_of_getElem? (i := 226) rfl)) rfl), gW_in _ (tb_2 _ (List.mem_of_getElem? (i := 190) rfl)) rfl⟩
theorem lk_X10_30 : LkV RX10 30 yX10_has := ⟨Or.inl (gW_in _ (tb_2 _ (List.mem_of_getElem? (i := 173) rfl)) rfl), gW_in _ (tb_2 _ (List.mem_of_getElem? (i := 174) rfl)) rfl, gW_in _ (tb_2 _ (List.mem_of_getElem? (i := 175) rfl)) rfl⟩
theorem lk_X10_34 : LkV RX10 34 yX10_unitAt := ⟨Or.inl (gW_in _ (tb_2 _ (List.mem_of_getElem? (i := 169) rfl)) rfl), gW_in _ (tb_2 _ (List.mem_of_getElem? (i := 170) rfl)) rfl, gW_in _ (tb_2 _ (List.mem_of_getElem? (i := 171) rfl)) rfl⟩
theorem lk_X10_70 : LkV RX10 70 yX10_make := ⟨Or.inl (gW_in _ (tb_4 _ (List.mem_of_getElem? (i := 74) rfl)) rfl), gW_in _ (tb_4 _ (List.mem_of_getElem? (i := 76) rfl)) rfl, gW_in _ (tp_1 _ (List.mem_of_getElem? (i := 10) rfl)) rfl⟩
theorem lk_X10_74 : LkV RX10 74 yX10_judge := ⟨Or.inl (gW_in _ (tb_4 _ (List.mem_of_getElem? (i := 233) rfl)) rfl), gW_in _ (tb_4 _ (List.mem_of_getElem? (i := 235) rfl)) rfl, gW_in _ (tp_3 _ (List.mem_of_getElem? (i := 10) rfl)) rfl⟩
theorem lk_X10_78 : LkV RX10 78 yX9_test := ⟨Or.inl (gW_in _ (tb_4 _ (List.mem_of_getElem? (i := 101) rfl)) rfl), gW_in _ (tb_4 _ (List.mem_of_getElem? (i := 102) rfl)) rfl, gW_in _ (tb_4 _ (List.mem_of_getElem? (i := 103) rfl)) rfl⟩
theorem lk_X10_81 : LkS RX10 81 yJ9_floorMod_7cf53 := ⟨Or.inl (gW_in _ (tb_4 _ (List.mem_of_getElem? (i := 237) rfl)) rfl), gW_in _ (tb_2 _ (List.mem_of_getElem? (i := 190) rfl)) rfl⟩
theorem lk_X10_87 : LkV RX10 87 yX9_clear := ⟨Or.inl (gW_in _ (tb_4 _ (List.mem_of_getElem? (i := 78) rfl)) rfl), gW_in _ (tb_4 _ (List.mem_of_getElem? (i := 79) rfl)) rfl, gW_in _ (tb_4 _ (List.mem_of_getElem? (i := 80) rfl)) rfl⟩
theorem lk_X10_97 : LkV RX10 97 yX10_makeUnit := ⟨Or.inl (gW_in _ (tb_4 _ (List.mem_of_getElem? (i := 82) rfl)) rfl), gW_in _ (tb_4 _ (List.mem_of_getElem? (i := 84) rfl)) rfl, gW_in _ (tp_1 _ (List.mem_of_getElem? (i := 11) rfl)) rfl⟩
theorem lk_X10_100 : LkV RX10 100 yX10_makeStore := ⟨Or.inl (gW_in _ (tb_4 _ (List.mem_of_getElem? (i := 109) rfl)) rfl), gW_in _ (tb_4 _ (List.mem_of_getElem? (i := 111) rfl)) rfl, gW_in _ (tp_1 _ (List.mem_of_getElem? (i := 14) rfl)) rfl⟩
theorem lk_X10_103 : LkV RX10 103 yX10_makeBattery := ⟨Or.inl (gW_in _ (tb_4 _ (List.mem_of_getElem? (i := 113) rfl)) rfl), gW_in _ (tb_4 _ (List.mem_of_getElem? (i := 115) rfl)) rfl, gW_in _ (tp_1 _ (List.mem_of_getElem? (i := 15) rfl)) rfl⟩
theorem lk_X10_106 : LkV RX10 106 yX10_makeCellpack := ⟨Or.inl (gW_in _ (tb_4 _ (List.mem_of_getElem? (i := 121) rfl)) rfl), gW_in _ (tb_4 _ (List.mem_of_getElem? (i := 123) rfl)) rfl, gW_in _ (tp_2 _ (List.mem_of_getElem? (i := 0) rfl)) rfl⟩
theorem lk_X10_109 : LkV RX10 109 yX10_makeTank := ⟨Or.inl (gW_in _ (tb_4 _ (List.mem_of_getElem? (i := 125) rfl)) rfl), gW_in _ (tb_4 _ (List.mem_of_getElem? (i := 127) rfl)) rfl, gW_in _ (tp_2 _ (List.mem_of_getElem? (i := 1) rfl)) rfl⟩
theorem lk_X10_112 : LkV RX10 112 yX10_makeRecorder := ⟨Or.inl (gW_in _ (tb_4 _ (List.mem_of_getElem? (i := 129) rfl)) rfl), gW_in _ (tb_4 _ (List.mem_of_getElem? (i := 131) rfl)) rfl, gW_in _ (tp_2 _ (List.mem_of_getElem? (i := 2) rfl)) rfl⟩
theorem lk_X10_115 : LkV RX10 115 yX10_makeLoad := ⟨Or.inl (gW_in _ (tb_4 _ (List.mem_of_getElem? (i := 133) rfl)) rfl), gW_in _ (tb_4 _ (List.mem_of_getElem? (i := 135) rfl)) rfl, gW_in _ (tp_2 _ (List.mem_of_getElem? (i := 3) rfl)) rfl⟩
theorem lk_X10_118 : LkV RX10 118 yX10_makeHeater := ⟨Or.inl (gW_in _ (tb_4 _ (List.mem_of_getElem? (i := 137) rfl)) rfl), gW_in _ (tb_4 _ (List.mem_of_getElem? (i := 139) rfl)) rfl, gW_in _ (tp_2 _ (List.mem_of_getElem? (i := 4) rfl)) rfl⟩
theorem lk_X10_121 : LkV RX10 121 yX10_makeThermo := ⟨Or.inl (gW_in _ (tb_4 _ (List.mem_of_getElem? (i := 141) rfl)) rfl), gW_in _ (tb_4 _ (List.mem_of_getElem? (i := 143) rfl)) rfl, gW_in _ (tp_2 _ (List.mem_of_getElem? (i := 5) rfl)) rfl⟩
theorem lk_X10_124 : LkV RX10 124 yX10_makeSensor := ⟨Or.inl (gW_in _ (tb_4 _ (List.mem_of_getElem? (i := 145) rfl)) rfl), gW_in _ (tb_4 _ (List.mem_of_getElem? (i := 147) rfl)) rfl, gW_in _ (tp_2 _ (List.mem_of_getElem? (i := 6) rfl)) rfl⟩
theorem lk_X10_127 : LkV RX10 127 yX10_makeGyro := ⟨Or.inl (gW_in _ (tb_4 _ (List.mem_of_getElem? (i := 153) rfl)) rfl), gW_in _ (tb_4 _ (List.mem_of_getElem? (i := 155) rfl)) rfl, gW_in _ (tp_2 _ (List.mem_of_getElem? (i := 7) rfl)) rfl⟩
theorem lk_X10_130 : LkV RX10 130 yX10_makeFinegyro := ⟨Or.inl (gW_in _ (tb_4 _ (List.mem_of_getElem? (i := 157) rfl)) rfl), gW_in _ (tb_4 _ (List.mem_of_getElem? (i := 159) rfl)) rfl, gW_in _ (tp_2 _ (List.mem_of_getElem? (i := 8) rfl)) rfl⟩
theorem lk_X10_133 : LkV RX10 133 yX10_makeSuneye := ⟨Or.inl (gW_in _ (tb_4 _ (List.mem_of_getElem? (i := 161) rfl)) rfl), gW_in _ (tb_4 _ (List.mem_of_getElem? (i := 163) rfl)) rfl, gW_in _ (tp_2 _ (List.mem_of_getElem? (i := 9) rfl)) rfl⟩
theorem lk_X10_136 : LkV RX10 136 yX10_makeProbe := ⟨Or.inl (gW_in _ (tb_4 _ (List.mem_of_getElem? (i := 165) rfl)) rfl), gW_in _ (tb_4 _ (List.mem_of_getElem? (i := 167) rfl)) rfl, gW_in _ (tp_2 _ (List.mem_of_getElem? (i := 10) rfl)) rfl⟩
theorem lk_X10_139 : LkV RX10 139 yX10_makeCamera := ⟨Or.inl (gW_in _ (tb_4 _ (List.mem_of_getElem? (i := 169) rfl)) rfl), gW_in _ (tb_4 _ (List.mem_of_getElem? (i := 171) rfl)) rfl, gW_in _ (tp_2 _ (List.mem_of_getElem? (i := 11) rfl)) rfl⟩
theorem lk_X10_142 : LkV RX10 142 yX10_makeActuator := ⟨Or.inl (gW_in _ (tb_4 _ (List.mem_of_getElem? (i := 173) rfl)) rfl), gW_in _ (tb_4 _ (List.mem_of_getElem? (i := 175) rfl)) rfl, gW_in _ (tp_2 _ (List.mem_of_getElem? (i := 12) rfl)) rfl⟩
theorem lk_X10_145 : LkV RX10 145 yX10_makeWheel := ⟨Or.inl (gW_in _ (tb_4 _ (List.mem_of_getElem? (i := 181) rfl)) rfl), gW_in _ (tb_4 _ (List.mem_of_getElem? (i := 183) rfl)) rfl, gW_in _ (tp_2 _ (List.mem_of_getElem? (i := 13) rfl)) rfl⟩
theorem lk_X10_148 : LkV RX10 148 yX10_makeCoil := ⟨Or.inl (gW_in _ (tb_4 _ (List.mem_of_getElem? (i := 185) rfl)) rfl), gW_in _ (tb_4 _ (List.mem_of_getElem? (i := 187) rfl)) rfl, gW_in _ (tp_2 _ (List.mem_of_getElem? (i := 14) rfl)) rfl⟩
theorem lk_X10_151 : LkV RX10 151 yX10_makeJet := ⟨Or.inl (gW_in _ (tb_4 _ (List.mem_of_getElem? (i := 189) rfl)) rfl), gW_in _ (tb_4 _ (List.mem_of_getElem? (i := 191) rfl)) rfl, gW_in _ (tp_2 _ (List.mem_of_getElem? (i := 15) rfl)) rfl⟩
theorem lk_X10_154 : LkV RX10 154 yX10_makePulser := ⟨Or.inl (gW_in _ (tb_4 _ (List.mem_of_getElem? (i := 193) rfl)) rfl), gW_in _ (tb_4 _ (List.mem_of_getElem? (i := 195) rfl)) rfl, gW_in _ (tp_3 _ (List.mem_of_getElem? (i := 0) rfl)) rfl⟩
theorem lk_X10_157 : LkV RX10 157 yX10_makeRadio := ⟨Or.inl (gW_in _ (tb_4 _ (List.mem_of_getElem? (i := 197) rfl)) rfl), gW_in _ (tb_4 _ (List.mem_of_getElem? (i := 199) rfl)) rfl, gW_in _ (tp_3 _ (List.mem_of_getElem? (i := 1) rfl)) rfl⟩
theorem lk_X10_160 : LkV RX10 160 yX10_makeBeacon := ⟨Or.inl (gW_in _ (tb_4 _ (List.mem_of_getElem? (i := 201) rfl)) rfl), gW_in _ (tb_4 _ (List.mem_of_getElem? (i := 203) rfl)) rfl, gW_in _ (tp_3 _ (List.mem_of_getElem? (i := 2) rfl)) rfl⟩
theorem lk_X10_163 : LkV RX10 163 yX10_makeSource := ⟨Or.inl (gW_in _ (tb_4 _ (List.mem_of_getElem? (i := 205) rfl)) rfl), gW_in _ (tb_4 _ (List.mem_of_getElem? (i := 207) rfl)) rfl, gW_in _ (tp_3 _ (List.mem_of_getElem? (i := 3) rfl)) rfl⟩
theorem lk_X10_166 : LkV RX10 166 yX10_makePanel := ⟨Or.inl (gW_in _ (tb_4 _ (List.mem_of_getElem? (i := 209) rfl)) rfl), gW_in _ (tb_4 _ (List.mem_of_getElem? (i := 211) rfl)) rfl, gW_in _ (tp_3 _ (List.mem_of_getElem? (i := 4) rfl)) rfl⟩
theorem lk_X10_169 : LkV RX10 169 yX10_makeTracker := ⟨Or.inl (gW_in _ (tb_4 _ (List.mem_of_getElem? (i := 213) rfl)) rfl), gW_in _ (tb_4 _ (List.mem_of_getElem? (i := 215) rfl)) rfl, gW_in _ (tp_3 _ (List.mem_of_getElem? (i := 5) rfl)) rfl⟩
theorem lk_X10_172 : LkV RX10 172 yX10_makeGenerator := ⟨Or.inl (gW_in _ (tb_4 _ (List.mem_of_getElem? (i := 217) rfl)) rfl), gW_in _ (tb_4 _ (List.mem_of_getElem? (i := 219) rfl)) rfl, gW_in _ (tp_3 _ (List.mem_of_getElem? (i := 6) rfl)) rfl⟩
theorem lk_X10_175 : LkV RX10 175 yX10_makeLink := ⟨Or.inl (gW_in _ (tb_4 _ (List.mem_of_getElem? (i := 221) rfl)) rfl), gW_in _ (tb_4 _ (List.mem_of_getElem? (i := 223) rfl)) rfl, gW_in _ (tp_3 _ (List.mem_of_getElem? (i := 7) rfl)) rfl⟩
theorem lk_X10_178 : LkV RX10 178 yX10_makePipe := ⟨Or.inl (gW_in _ (tb_4 _ (List.mem_of_getElem? (i := 225) rfl)) rfl), gW_in _ (tb_4 _ (List.mem_of_getElem? (i := 227) rfl)) rfl, gW_in _ (tp_3 _ (List.mem_of_getElem? (i := 8) rfl)) rfl⟩
theorem lk_X10_181 : LkV RX10 181 yX10_makeHose := ⟨Or.inl (gW_in _ (tb_4 _ (List.mem_of_getElem? (i := 229) rfl)) rfl), gW_in _ (tb_4 _ (List.mem_of_getElem? (i := 231) rfl)) rfl, gW_in _ (tp_3 _ (List.mem_of_getElem? (i := 9) rfl)) rfl⟩
theorem lk_X10_184 : LkV RX10 184 yX10_draw := ⟨Or.inl (gW_in _ (tb_4 _ (List.mem_of_getElem? (i := 86) rfl)) rfl), gW_in _ (tb_4 _ (List.mem_of_getElem? (i := 88) rfl)) rfl, gW_in _ (tp_1 _ (List.mem_of_getElem? (i := 12) rfl)) rfl⟩
theorem lk_X10_187 : LkV RX10 187 yX9_mass := ⟨Or.inl (gW_in _ (tb_4 _ (List.mem_of_getElem? (i := 90) rfl)) rfl), gW_in _ (tb_4 _ (List.mem_of_getElem? (i := 91) rfl)) rfl, gW_in _ (tb_4 _ (List.mem_of_getElem? (i := 92) rfl)) rfl⟩
theorem lk_X10_190 : LkV RX10 190 yX9_span := ⟨Or.inl (gW_in _ (tb_4 _ (List.mem_of_getElem? (i := 94) rfl)) rfl), gW_in _ (tb_4 _ (List.mem_of_getElem? (i := 95) rfl)) rfl, gW_in _ (tb_4 _ (List.mem_of_getElem? (i := 96) rfl)) rfl⟩
theorem lk_X10_193 : LkS RX10 193 yJ9_max_7cf53 := ⟨Or.inl (gW_in _ (tb_4 _ (List.mem_of_getElem? (i := 98) rfl)) rfl), gW_in _ (tb_4 _ (List.mem_of_getElem? (i := 99) rfl)) rfl⟩
theorem lk_X10_196 : LkV RX10 196 yX10_jot := ⟨Or.inl (gW_in _ (tb_4 _ (List.mem_of_getElem? (i := 105) rfl)) rfl), gW_in _ (tb_4 _ (List.mem_of_getElem? (i := 107) rfl)) rfl, gW_in _ (tp_1 _ (List.mem_of_getElem? (i := 13) rfl)) rfl⟩
theorem lk_X10_203 : LkV RX10 203 yX9_need := ⟨Or.inl (gW_in _ (tb_4 _ (List.mem_of_getElem? (i := 117) rfl)) rfl), gW_in _ (tb_4 _ (List.mem_of_getElem? (i := 118) rfl)) rfl, gW_in _ (tb_4 _ (List.mem_of_getElem? (i := 119) rfl)) rfl⟩
theorem lk_X10_212 : LkV RX10 212 yX9_channels := ⟨Or.inl (gW_in _ (tb_4 _ (List.mem_of_getElem? (i := 149) rfl)) rfl), gW_in _ (tb_4 _ (List.mem_of_getElem? (i := 150) rfl)) rfl, gW_in _ (tb_4 _ (List.mem_of_getElem? (i := 151) rfl)) rfl⟩
theorem lk_X10_215 : LkV RX10 215 yX9_push := ⟨Or.inl (gW_in _ (tb_4 _ (List.mem_of_getElem? (i := 177) rfl)) rfl), gW_in _ (tb_4 _ (List.mem_of_getElem? (i := 178) rfl)) rfl, gW_in _ (tb_4 _ (List.mem_of_getElem? (i := 179) rfl)) rfl⟩
theorem lk_X12_115 : LkS RX12 115 yX12_mod := ⟨Or.inl (gW_in _ (tb_8 _ (List.mem_of_getElem? (i := 152) rfl)) rfl), gW_in _ (tb_8 _ (List.mem_of_getElem? (i := 153) rfl)) rfl⟩
theorem lk_X12_131 : LkV RX12 131 yX12_byteAt := ⟨Or.inl (gW_in _ (tb_8 _ (List.mem_of_getElem? (i := 46) rfl)) rfl), gW_in _ (tb_8 _ (List.mem_of_getElem? (i := 48) rfl)) rfl, gW_in _ (tp_6 _ (List.mem_of_getElem? (i := 7) rfl)) rfl⟩
theorem lk_X12_141 : LkS RX12 141 yX12_isLetter := ⟨Or.inl (gW_in _ (tb_8 _ (List.mem_of_getElem? (i := 50) rfl)) rfl), gW_in _ (tb_8 _ (List.mem_of_getElem? (i := 51) rfl)) rfl⟩
theorem lk_X12_145 : LkV RX12 145 yX12_takeWord := ⟨Or.inl (gW_in _ (tb_8 _ (List.mem_of_getElem? (i := 53) rfl)) rfl), gW_in _ (tb_8 _ (List.mem_of_getElem? (i := 55) rfl)) rfl, gW_in _ (tp_6 _ (List.mem_of_getElem? (i := 8) rfl)) rfl⟩
theorem lk_X12_148 : LkS RX12 148 yX12_isDigit := ⟨Or.inl (gW_in _ (tb_8 _ (List.mem_of_getElem? (i := 57) rfl)) rfl), gW_in _ (tb_8 _ (List.mem_of_getElem? (i := 58) rfl)) rfl⟩
theorem lk_X12_151 : LkV RX12 151 yX12_takeNumber := ⟨Or.inl (gW_in _ (tb_8 _ (List.mem_of_getElem? (i := 64) rfl)) rfl), gW_in _ (tb_8 _ (List.mem_of_getElem? (i := 66) rfl)) rfl, gW_in _ (tp_6 _ (List.mem_of_getElem? (i := 10) rfl)) rfl⟩
theorem lk_X12_157 : LkV RX12 157 yX12_wrong := ⟨Or.inl (gW_in _ (tb_8 _ (List.mem_of_getElem? (i := 60) rfl)) rfl), gW_in _ (tb_8 _ (List.mem_of_getElem? (i := 62) rfl)) rfl, gW_in _ (tp_6 _ (List.mem_of_getElem? (i := 9) rfl)) rfl⟩
theorem lk_X12_164 : LkV RX12 164 yX12_next := ⟨Or.inl (gW_in _ (tb_8 _ (List.mem_of_getElem? (i := 42) rfl)) rfl), gW_in _ (tb_8 _ (List.mem_of_getElem? (i := 44) rfl)) rfl, gW_in _ (tp_6 _ (List.mem_of_getElem? (i := 6) rfl)) rfl⟩
theorem lk_X12_171 : LkS RX12 171 yX12_in := ⟨Or.inl (gW_in _ (tb_8 _ (List.mem_of_getElem? (i := 89) rfl)) rfl), gW_in _ (tb_8 _ (List.mem_of_getElem? (i := 90) rfl)) rfl⟩
theorem lk_X12_175 : LkV RX12 175 yX12_isNew := ⟨Or.inl (gW_in _ (tb_8 _ (List.mem_of_getElem? (i := 92) rfl)) rfl), gW_in _ (tb_8 _ (List.mem_of_getElem? (i := 94) rfl)) rfl, gW_in _ (tp_6 _ (List.mem_of_getElem? (i := 15) rfl)) rfl⟩
theorem lk_X12_179 : LkV RX12 179 yX12_fitsLoad := ⟨Or.inl (gW_in _ (tb_8 _ (List.mem_of_getElem? (i := 96) rfl)) rfl), gW_in _ (tb_8 _ (List.mem_of_getElem? (i := 98) rfl)) rfl, gW_in _ (tp_7 _ (List.mem_of_getElem? (i := 0) rfl)) rfl⟩
theorem lk_X12_182 : LkV RX12 182 yX12_wordOf := ⟨Or.inl (gW_in _ (tb_8 _ (List.mem_of_getElem? (i := 68) rfl)) rfl), gW_in _ (tb_8 _ (List.mem_of_getElem? (i := 70) rfl)) rfl, gW_in _ (tp_6 _ (List.mem_of_getElem? (i := 11) rfl)) rfl⟩
theorem lk_X12_186 : LkV RX12 186 yX12_named := ⟨Or.inl (gW_in _ (tb_8 _ (List.mem_of_getElem? (i := 72) rfl)) rfl), gW_in _ (tb_8 _ (List.mem_of_getElem? (i := 74) rfl)) rfl, gW_in _ (tp_6 _ (List.mem_of_getElem? (i := 12) rfl)) rfl⟩
theorem lk_X12_190 : LkS RX12 190 yX12_many := ⟨Or.inl (gW_in _ (tb_8 _ (List.mem_of_getElem? (i := 76) rfl)) rfl), gW_in _ (tb_8 _ (List.mem_of_getElem? (i := 77) rfl)) rfl⟩
theorem lk_X12_195 : LkV RX12 195 yX12_number := ⟨Or.inl (gW_in _ (tb_8 _ (List.mem_of_getElem? (i := 81) rfl)) rfl), gW_in _ (tb_8 _ (List.mem_of_getElem? (i := 83) rfl)) rfl, gW_in _ (tp_6 _ (List.mem_of_getElem? (i := 13) rfl)) rfl⟩
theorem lk_X12_198 : LkV RX12 198 yX12_fits := ⟨Or.inl (gW_in _ (tb_8 _ (List.mem_of_getElem? (i := 85) rfl)) rfl), gW_in _ (tb_8 _ (List.mem_of_getElem? (i := 87) rfl)) rfl, gW_in _ (tp_6 _ (List.mem_of_getElem? (i := 14) rfl)) rfl⟩
theorem lk_X12_201 : LkV RX12 201 yX12_sign := ⟨Or.inl (gW_in _ (tb_8 _ (List.mem_of_getElem? (i := 100) rfl)) rfl), gW_in _ (tb_8 _ (List.mem_of_getElem? (i := 102) rfl)) rfl, gW_in _ (tp_7 _ (List.mem_of_getElem? (i := 1) rfl)) rfl⟩
theorem lk_X12_211 : LkV RX12 211 yX12_get := ⟨Or.inl (gW_in _ (tb_8 _ (List.mem_of_getElem? (i := 140) rfl)) rfl), gW_in _ (tb_8 _ (List.mem_of_getElem? (i := 142) rfl)) rfl, gW_in _ (tp_7 _ (List.mem_of_getElem? (i := 11) rfl)) rfl⟩
theorem lk_X12_214 : LkV RX12 214 yX12_has := ⟨Or.inl (gW_in _ (tb_8 _ (List.mem_of_getElem? (i := 116) rfl)) rfl), gW_in _ (tb_8 _ (List.mem_of_getElem? (i := 118) rfl)) rfl, gW_in _ (tp_7 _ (List.mem_of_getElem? (i := 5) rfl)) rfl⟩
theorem lk_X12_217 : LkV RX12 217 yX12_isA := ⟨Or.inl (gW_in _ (tb_8 _ (List.mem_of_getElem? (i := 223) rfl)) rfl), gW_in _ (tb_8 _ (List.mem_of_getElem? (i := 225) rfl)) rfl, gW_in _ (tp_8 _ (List.mem_of_getElem? (i := 14) rfl)) rfl⟩
theorem lk_X12_220 : LkV RX12 220 yX12_findLayers := ⟨Or.inl (gW_in _ (tb_8 _ (List.mem_of_getElem? (i := 120) rfl)) rfl), gW_in _ (tb_8 _ (List.mem_of_getElem? (i := 122) rfl)) rfl, gW_in _ (tp_7 _ (List.mem_of_getElem? (i := 6) rfl)) rfl⟩
theorem lk_X12_223 : LkV RX12 223 yX12_massBy := ⟨Or.inl (gW_in _ (tb_8 _ (List.mem_of_getElem? (i := 144) rfl)) rfl), gW_in _ (tb_8 _ (List.mem_of_getElem? (i := 146) rfl)) rfl, gW_in _ (tp_7 _ (List.mem_of_getElem? (i := 12) rfl)) rfl⟩
theorem lk_X12_227 : LkV RX12 227 yX12_spanBy := ⟨Or.inl (gW_in _ (tb_8 _ (List.mem_of_getElem? (i := 148) rfl)) rfl), gW_in _ (tb_8 _ (List.mem_of_getElem? (i := 150) rfl)) rfl, gW_in _ (tp_7 _ (List.mem_of_getElem? (i := 13) rfl)) rfl⟩
theorem lk_X12_230 : LkV RX12 230 yX12_needBy := ⟨Or.inl (gW_in _ (tb_8 _ (List.mem_of_getElem? (i := 155) rfl)) rfl), gW_in _ (tb_8 _ (List.mem_of_getElem? (i := 157) rfl)) rfl, gW_in _ (tp_7 _ (List.mem_of_getElem? (i := 14) rfl)) rfl⟩
theorem lk_X12_233 : LkV RX12 233 yX12_testBy := ⟨Or.inl (gW_in _ (tb_8 _ (List.mem_of_getElem? (i := 159) rfl)) rfl), gW_in _ (tb_8 _ (List.mem_of_getElem? (i := 161) rfl)) rfl, gW_in _ (tp_7 _ (List.mem_of_getElem? (i := 15) rfl)) rfl⟩
theorem lk_X12_236 : LkV RX12 236 yX12_channelsBy := ⟨Or.inl (gW_in _ (tb_8 _ (List.mem_of_getElem? (i := 163) rfl)) rfl), gW_in _ (tb_8 _ (List.mem_of_getElem? (i := 165) rfl)) rfl, gW_in _ (tp_8 _ (List.mem_of_getElem? (i := 0) rfl)) rfl⟩
theorem lk_X12_239 : LkV RX12 239 yX12_pushBy := ⟨Or.inl (gW_in _ (tb_8 _ (List.mem_of_getElem? (i := 167) rfl)) rfl), gW_in _ (tb_8 _ (List.mem_of_getElem? (i := 169) rfl)) rfl, gW_in _ (tp_8 _ (List.mem_of_getElem? (i := 1) rfl)) rfl⟩
theorem lk_X12_242 : LkV RX12 242 yX12_draw := ⟨Or.inl (gW_in _ (tb_8 _ (List.mem_of_getElem? (i := 132) rfl)) rfl), gW_in _ (tb_8 _ (List.mem_of_getElem? (i := 134) rfl)) rfl, gW_in _ (tp_7 _ (List.mem_of_getElem? (i := 9) rfl)) rfl⟩
theorem lk_X12_246 : LkV RX12 246 yX12_set := ⟨Or.inl (gW_in _ (tb_8 _ (List.mem_of_getElem? (i := 112) rfl)) rfl), gW_in _ (tb_8 _ (List.mem_of_getElem? (i := 114) rfl)) rfl, gW_in _ (tp_7 _ (List.mem_of_getElem? (i := 4) rfl)) rfl⟩
theorem lk_X12_250 : LkV RX12 250 yX12_answer := ⟨Or.inl (gW_in _ (tb_8 _ (List.mem_of_getElem? (i := 136) rfl)) rfl), gW_in _ (tb_8 _ (List.mem_of_getElem? (i := 138) rfl)) rfl, gW_in _ (tp_7 _ (List.mem_of_getElem? (i := 10) rfl)) rfl⟩
theorem lk_X12_253 : LkV RX12 253 yX12_noted := ⟨Or.inl (gW_in _ (tb_8 _ (List.mem_of_getElem? (i := 171) rfl)) rfl), gW_in _ (tb_8 _ (List.mem_of_getElem? (i := 173) rfl)) rfl, gW_in _ (tp_8 _ (List.mem_of_getElem? (i := 2) rfl)) rfl⟩
theorem lk_X12_259 : LkV RX12 259 yX12_grow := ⟨Or.inl (gW_in _ (tb_8 _ (List.mem_of_getElem? (i := 199) rfl)) rfl), gW_in _ (tb_8 _ (List.mem_of_getElem? (i := 201) rfl)) rfl, gW_in _ (tp_8 _ (List.mem_of_getElem? (i := 9) rfl)) rfl⟩
theorem lk_X12_265 : LkV RX12 265 yX12_makeUnit := ⟨Or.inl (gW_in _ (tb_8 _ (List.mem_of_getElem? (i := 128) rfl)) rfl), gW_in _ (tb_8 _ (List.mem_of_getElem? (i := 130) rfl)) rfl, gW_in _ (tp_7 _ (List.mem_of_getElem? (i := 8) rfl)) rfl⟩
theorem lk_X12_268 : LkV RX12 268 yX12_makeStore := ⟨Or.inl (gW_in _ (tb_8 _ (List.mem_of_getElem? (i := 175) rfl)) rfl), gW_in _ (tb_8 _ (List.mem_of_getElem? (i := 177) rfl)) rfl, gW_in _ (tp_8 _ (List.mem_of_getElem? (i := 3) rfl)) rfl⟩
theorem lk_X12_272 : LkV RX12 272 yX12_makeLoad := ⟨Or.inl (gW_in _ (tb_8 _ (List.mem_of_getElem? (i := 179) rfl)) rfl), gW_in _ (tb_8 _ (List.mem_of_getElem? (i := 181) rfl)) rfl, gW_in _ (tp_8 _ (List.mem_of_getElem? (i := 4) rfl)) rfl⟩
theorem lk_X12_276 : LkV RX12 276 yX12_makeSensor := ⟨Or.inl (gW_in _ (tb_8 _ (List.mem_of_getElem? (i := 183) rfl)) rfl), gW_in _ (tb_8 _ (List.mem_of_getElem? (i := 185) rfl)) rfl, gW_in _ (tp_8 _ (List.mem_of_getElem? (i := 5) rfl)) rfl⟩
theorem lk_X12_279 : LkV RX12 279 yX12_makeActuator := ⟨Or.inl (gW_in _ (tb_8 _ (List.mem_of_getElem? (i := 187) rfl)) rfl), gW_in _ (tb_8 _ (List.mem_of_getElem? (i := 189) rfl)) rfl, gW_in _ (tp_8 _ (List.mem_of_getElem? (i := 6) rfl)) rfl⟩
theorem lk_X12_282 : LkV RX12 282 yX12_makeSource := ⟨Or.inl (gW_in _ (tb_8 _ (List.mem_of_getElem? (i := 191) rfl)) rfl), gW_in _ (tb_8 _ (List.mem_of_getElem? (i := 193) rfl)) rfl, gW_in _ (tp_8 _ (List.mem_of_getElem? (i := 7) rfl)) rfl⟩
theorem lk_X12_285 : LkV RX12 285 yX12_makeLink := ⟨Or.inl (gW_in _ (tb_8 _ (List.mem_of_getElem? (i := 195) rfl)) rfl), gW_in _ (tb_8 _ (List.mem_of_getElem? (i := 197) rfl)) rfl, gW_in _ (tp_8 _ (List.mem_of_getElem? (i := 8) rfl)) rfl⟩
theorem lk_X12_288 : LkV RX12 288 yX12_makeLayer := ⟨Or.inl (gW_in _ (tb_8 _ (List.mem_of_getElem? (i := 124) rfl)) rfl), gW_in _ (tb_8 _ (List.mem_of_getElem? (i := 126) rfl)) rfl, gW_in _ (tp_7 _ (List.mem_of_getElem? (i := 7) rfl)) rfl⟩
theorem lk_X12_291 : LkV RX12 291 yX12_begins := ⟨Or.inl (gW_in _ (tb_8 _ (List.mem_of_getElem? (i := 34) rfl)) rfl), gW_in _ (tb_8 _ (List.mem_of_getElem? (i := 36) rfl)) rfl, gW_in _ (tp_6 _ (List.mem_of_getElem? (i := 4) rfl)) rfl⟩
theorem lk_X12_294 : LkV RX12 294 yX12_readUnit := ⟨Or.inl (gW_in _ (tb_8 _ (List.mem_of_getElem? (i := 38) rfl)) rfl), gW_in _ (tb_8 _ (List.mem_of_getElem? (i := 40) rfl)) rfl, gW_in _ (tp_6 _ (List.mem_of_getElem? (i := 5) rfl)) rfl⟩
theorem lk_X12_300 : LkV RX12 300 yX12_clear := ⟨Or.inl (gW_in _ (tb_8 _ (List.mem_of_getElem? (i := 104) rfl)) rfl), gW_in _ (tb_8 _ (List.mem_of_getElem? (i := 106) rfl)) rfl, gW_in _ (tp_7 _ (List.mem_of_getElem? (i := 2) rfl)) rfl⟩
theorem lk_X12_303 : LkV RX12 303 yX12_make := ⟨Or.inl (gW_in _ (tb_8 _ (List.mem_of_getElem? (i := 108) rfl)) rfl), gW_in _ (tb_8 _ (List.mem_of_getElem? (i := 110) rfl)) rfl, gW_in _ (tp_7 _ (List.mem_of_getElem? (i := 3) rfl)) rfl⟩
theorem lk_X12_348 : LkV RX12 348 yX12_planWord := ⟨Or.inl (gW_in _ (tb_8 _ (List.mem_of_getElem? (i := 211) rfl)) rfl), gW_in _ (tb_8 _ (List.mem_of_getElem? (i := 213) rfl)) rfl, gW_in _ (tp_8 _ (List.mem_of_getElem? (i := 11) rfl)) rfl⟩
theorem lk_X12_351 : LkV RX12 351 yX12_unitNext := ⟨Or.inl (gW_in _ (tb_8 _ (List.mem_of_getElem? (i := 219) rfl)) rfl), gW_in _ (tb_8 _ (List.mem_of_getElem? (i := 221) rfl)) rfl, gW_in _ (tp_8 _ (List.mem_of_getElem? (i := 13) rfl)) rfl⟩
theorem lk_X12_357 : LkV RX12 357 yX12_readTerm := ⟨Or.inl (gW_in _ (tb_8 _ (List.mem_of_getElem? (i := 215) rfl)) rfl), gW_in _ (tb_8 _ (List.mem_of_getElem? (i := 217) rfl)) rfl, gW_in _ (tp_8 _ (List.mem_of_getElem? (i := 12) rfl)) rfl⟩
theorem lk_X12_360 : LkV RX12 360 yX12_readAct := ⟨Or.inl (gW_in _ (tb_8 _ (List.mem_of_getElem? (i := 227) rfl)) rfl), gW_in _ (tb_8 _ (List.mem_of_getElem? (i := 229) rfl)) rfl, gW_in _ (tp_8 _ (List.mem_of_getElem? (i := 15) rfl)) rfl⟩
theorem lk_X12_363 : LkV RX12 363 yX12_readItem := ⟨Or.inl (gW_in _ (tb_8 _ (List.mem_of_getElem? (i := 207) rfl)) rfl), gW_in _ (tb_8 _ (List.mem_of_getElem? (i := 209) rfl)) rfl, gW_in _ (tp_8 _ (List.mem_of_getElem? (i := 10) rfl)) rfl⟩
theorem lk_X12_366 : LkV RX12 366 yX12_isWhole := ⟨Or.inl (gW_in _ (tb_9 _ (List.mem_of_getElem? (i := 31) rfl)) rfl), gW_in _ (tb_9 _ (List.mem_of_getElem? (i := 33) rfl)) rfl, gW_in _ (tp_9 _ (List.mem_of_getElem? (i := 8) rfl)) rfl⟩
theorem lk_X12_369 : LkV RX12 369 yX12_turnsOn := ⟨Or.inl (gW_in _ (tb_9 _ (List.mem_of_getElem? (i := 27) rfl)) rfl), gW_in _ (tb_9 _ (List.mem_of_getElem? (i := 29) rfl)) rfl, gW_in _ (tp_9 _ (List.mem_of_getElem? (i := 7) rfl)) rfl⟩
theorem lk_X12_372 : LkV RX12 372 yX12_term := ⟨Or.inl (gW_in _ (tb_9 _ (List.mem_of_getElem? (i := 19) rfl)) rfl), gW_in _ (tb_9 _ (List.mem_of_getElem? (i := 21) rfl)) rfl, gW_in _ (tp_9 _ (List.mem_of_getElem? (i := 5) rfl)) rfl⟩
theorem lk_X12_375 : LkV RX12 375 yX12_isDue := ⟨Or.inl (gW_in _ (tb_9 _ (List.mem_of_getElem? (i := 15) rfl)) rfl), gW_in _ (tb_9 _ (List.mem_of_getElem? (i := 17) rfl)) rfl, gW_in _ (tp_9 _ (List.mem_of_getElem? (i := 4) rfl)) rfl⟩
theorem lk_X12_378 : LkV RX12 378 yX12_acts := ⟨Or.inl (gW_in _ (tb_9 _ (List.mem_of_getElem? (i := 23) rfl)) rfl), gW_in _ (tb_9 _ (List.mem_of_getElem? (i := 25) rfl)) rfl, gW_in _ (tp_9 _ (List.mem_of_getElem? (i := 6) rfl)) rfl⟩
theorem lk_X12_381 : LkS RX12 381 yX12_off := ⟨Or.inl (gW_in _ (tb_9 _ (List.mem_of_getElem? (i := 47) rfl)) rfl), gW_in _ (tb_9 _ (List.mem_of_getElem? (i := 48) rfl)) rfl⟩
theorem lk_X12_384 : LkS RX12 384 yX12_amount := ⟨Or.inl (gW_in _ (tb_9 _ (List.mem_of_getElem? (i := 50) rfl)) rfl), gW_in _ (tb_9 _ (List.mem_of_getElem? (i := 51) rfl)) rfl⟩
theorem lk_X12_387 : LkV RX12 387 yX12_hasRoom := ⟨Or.inl (gW_in _ (tb_9 _ (List.mem_of_getElem? (i := 53) rfl)) rfl), gW_in _ (tb_9 _ (List.mem_of_getElem? (i := 55) rfl)) rfl, gW_in _ (tp_9 _ (List.mem_of_getElem? (i := 12) rfl)) rfl⟩
theorem lk_X12_390 : LkV RX12 390 yX12_keep := ⟨Or.inl (gW_in _ (tb_9 _ (List.mem_of_getElem? (i := 57) rfl)) rfl), gW_in _ (tb_9 _ (List.mem_of_getElem? (i := 59) rfl)) rfl, gW_in _ (tp_9 _ (List.mem_of_getElem? (i := 13) rfl)) rfl⟩
theorem lk_X12_393 : LkV RX12 393 yX12_isOn := ⟨Or.inl (gW_in _ (tb_9 _ (List.mem_of_getElem? (i := 39) rfl)) rfl), gW_in _ (tb_9 _ (List.mem_of_getElem? (i := 41) rfl)) rfl, gW_in _ (tp_9 _ (List.mem_of_getElem? (i := 10) rfl)) rfl⟩
theorem lk_X12_396 : LkV RX12 396 yX12_readSensor := ⟨Or.inl (gW_in _ (tb_9 _ (List.mem_of_getElem? (i := 43) rfl)) rfl), gW_in _ (tb_9 _ (List.mem_of_getElem? (i := 45) rfl)) rfl, gW_in _ (tp_9 _ (List.mem_of_getElem? (i := 11) rfl)) rfl⟩
theorem lk_X12_399 : LkV RX12 399 yX12_firstOn := ⟨Or.inl (gW_in _ (tb_9 _ (List.mem_of_getElem? (i := 73) rfl)) rfl), gW_in _ (tb_9 _ (List.mem_of_getElem? (i := 75) rfl)) rfl, gW_in _ (tp_10 _ (List.mem_of_getElem? (i := 1) rfl)) rfl⟩
theorem lk_X12_402 : LkS RX12 402 yX12_limit := ⟨Or.inl (gW_in _ (tb_9 _ (List.mem_of_getElem? (i := 77) rfl)) rfl), gW_in _ (tb_9 _ (List.mem_of_getElem? (i := 78) rfl)) rfl⟩
theorem lk_X12_405 : LkV RX12 405 yX12_turns := ⟨Or.inl (gW_in _ (tb_9 _ (List.mem_of_getElem? (i := 80) rfl)) rfl), gW_in _ (tb_9 _ (List.mem_of_getElem? (i := 82) rfl)) rfl, gW_in _ (tp_10 _ (List.mem_of_getElem? (i := 2) rfl)) rfl⟩
theorem lk_X12_408 : LkV RX12 408 yX12_firstJet := ⟨Or.inl (gW_in _ (tb_9 _ (List.mem_of_getElem? (i := 88) rfl)) rfl), gW_in _ (tb_9 _ (List.mem_of_getElem? (i := 90) rfl)) rfl, gW_in _ (tp_10 _ (List.mem_of_getElem? (i := 4) rfl)) rfl⟩
theorem lk_X12_411 : LkV RX12 411 yX12_wish := ⟨Or.inl (gW_in _ (tb_9 _ (List.mem_of_getElem? (i := 69) rfl)) rfl), gW_in _ (tb_9 _ (List.mem_of_getElem? (i := 71) rfl)) rfl, gW_in _ (tp_10 _ (List.mem_of_getElem? (i := 0) rfl)) rfl⟩
theorem lk_X12_414 : LkV RX12 414 yX12_slow := ⟨Or.inl (gW_in _ (tb_9 _ (List.mem_of_getElem? (i := 84) rfl)) rfl), gW_in _ (tb_9 _ (List.mem_of_getElem? (i := 86) rfl)) rfl, gW_in _ (tp_10 _ (List.mem_of_getElem? (i := 3) rfl)) rfl⟩
theorem lk_X12_417 : LkV RX12 417 yX12_steer := ⟨Or.inl (gW_in _ (tb_9 _ (List.mem_of_getElem? (i := 65) rfl)) rfl), gW_in _ (tb_9 _ (List.mem_of_getElem? (i := 67) rfl)) rfl, gW_in _ (tp_9 _ (List.mem_of_getElem? (i := 15) rfl)) rfl⟩
theorem lk_X12_420 : LkV RX12 420 yX12_given := ⟨Or.inl (gW_in _ (tb_9 _ (List.mem_of_getElem? (i := 100) rfl)) rfl), gW_in _ (tb_9 _ (List.mem_of_getElem? (i := 102) rfl)) rfl, gW_in _ (tp_10 _ (List.mem_of_getElem? (i := 7) rfl)) rfl⟩
theorem lk_X12_423 : LkS RX12 423 yX12_least := ⟨Or.inl (gW_in _ (tb_9 _ (List.mem_of_getElem? (i := 104) rfl)) rfl), gW_in _ (tb_9 _ (List.mem_of_getElem? (i := 105) rfl)) rfl⟩
theorem lk_X12_426 : LkV RX12 426 yX12_brownout := ⟨Or.inl (gW_in _ (tb_9 _ (List.mem_of_getElem? (i := 107) rfl)) rfl), gW_in _ (tb_9 _ (List.mem_of_getElem? (i := 109) rfl)) rfl, gW_in _ (tp_10 _ (List.mem_of_getElem? (i := 8) rfl)) rfl⟩
theorem lk_X12_433 : LkV RX12 433 yX12_heated := ⟨Or.inl (gW_in _ (tb_9 _ (List.mem_of_getElem? (i := 119) rfl)) rfl), gW_in _ (tb_9 _ (List.mem_of_getElem? (i := 121) rfl)) rfl, gW_in _ (tp_10 _ (List.mem_of_getElem? (i := 11) rfl)) rfl⟩
theorem lk_X12_436 : LkV RX12 436 yX12_charge := ⟨Or.inl (gW_in _ (tb_9 _ (List.mem_of_getElem? (i := 127) rfl)) rfl), gW_in _ (tb_9 _ (List.mem_of_getElem? (i := 129) rfl)) rfl, gW_in _ (tp_10 _ (List.mem_of_getElem? (i := 13) rfl)) rfl⟩
theorem lk_X12_439 : LkV RX12 439 yX12_howMany := ⟨Or.inl (gW_in _ (tb_9 _ (List.mem_of_getElem? (i := 131) rfl)) rfl), gW_in _ (tb_9 _ (List.mem_of_getElem? (i := 133) rfl)) rfl, gW_in _ (tp_10 _ (List.mem_of_getElem? (i := 14) rfl)) rfl⟩
theorem lk_X12_443 : LkV RX12 443 yX12_check := ⟨Or.inl (gW_in _ (tb_9 _ (List.mem_of_getElem? (i := 135) rfl)) rfl), gW_in _ (tb_9 _ (List.mem_of_getElem? (i := 137) rfl)) rfl, gW_in _ (tp_10 _ (List.mem_of_getElem? (i := 15) rfl)) rfl⟩
theorem lk_X12_446 : LkV RX12 446 yX12_firstKeeping := ⟨Or.inl (gW_in _ (tb_9 _ (List.mem_of_getElem? (i := 155) rfl)) rfl), gW_in _ (tb_9 _ (List.mem_of_getElem? (i := 157) rfl)) rfl, gW_in _ (tp_11 _ (List.mem_of_getElem? (i := 4) rfl)) rfl⟩
theorem lk_X12_449 : LkV RX12 449 yX12_goesDown := ⟨Or.inl (gW_in _ (tb_9 _ (List.mem_of_getElem? (i := 143) rfl)) rfl), gW_in _ (tb_9 _ (List.mem_of_getElem? (i := 145) rfl)) rfl, gW_in _ (tp_11 _ (List.mem_of_getElem? (i := 1) rfl)) rfl⟩
theorem lk_X12_452 : LkV RX12 452 yX12_inView := ⟨Or.inl (gW_in _ (tb_9 _ (List.mem_of_getElem? (i := 147) rfl)) rfl), gW_in _ (tb_9 _ (List.mem_of_getElem? (i := 149) rfl)) rfl, gW_in _ (tp_11 _ (List.mem_of_getElem? (i := 2) rfl)) rfl⟩
theorem lk_X12_455 : LkV RX12 455 yX12_send := ⟨Or.inl (gW_in _ (tb_9 _ (List.mem_of_getElem? (i := 151) rfl)) rfl), gW_in _ (tb_9 _ (List.mem_of_getElem? (i := 153) rfl)) rfl, gW_in _ (tp_11 _ (List.mem_of_getElem? (i := 3) rfl)) rfl⟩
theorem lk_X12_458 : LkV RX12 458 yX12_shine := ⟨Or.inl (gW_in _ (tb_9 _ (List.mem_of_getElem? (i := 7) rfl)) rfl), gW_in _ (tb_9 _ (List.mem_of_getElem? (i := 9) rfl)) rfl, gW_in _ (tp_9 _ (List.mem_of_getElem? (i := 2) rfl)) rfl⟩
theorem lk_X12_461 : LkV RX12 461 yX12_doPlan := ⟨Or.inl (gW_in _ (tb_9 _ (List.mem_of_getElem? (i := 11) rfl)) rfl), gW_in _ (tb_9 _ (List.mem_of_getElem? (i := 13) rfl)) rfl, gW_in _ (tp_9 _ (List.mem_of_getElem? (i := 3) rfl)) rfl⟩
theorem lk_X12_464 : LkV RX12 464 yX12_readSensors := ⟨Or.inl (gW_in _ (tb_9 _ (List.mem_of_getElem? (i := 35) rfl)) rfl), gW_in _ (tb_9 _ (List.mem_of_getElem? (i := 37) rfl)) rfl, gW_in _ (tp_9 _ (List.mem_of_getElem? (i := 9) rfl)) rfl⟩
theorem lk_X12_467 : LkV RX12 467 yX12_control := ⟨Or.inl (gW_in _ (tb_9 _ (List.mem_of_getElem? (i := 61) rfl)) rfl), gW_in _ (tb_9 _ (List.mem_of_getElem? (i := 63) rfl)) rfl, gW_in _ (tp_9 _ (List.mem_of_getElem? (i := 14) rfl)) rfl⟩
theorem lk_X12_470 : LkV RX12 470 yX12_turn := ⟨Or.inl (gW_in _ (tb_9 _ (List.mem_of_getElem? (i := 92) rfl)) rfl), gW_in _ (tb_9 _ (List.mem_of_getElem? (i := 94) rfl)) rfl, gW_in _ (tp_10 _ (List.mem_of_getElem? (i := 5) rfl)) rfl⟩
theorem lk_X12_473 : LkV RX12 473 yX12_power := ⟨Or.inl (gW_in _ (tb_9 _ (List.mem_of_getElem? (i := 96) rfl)) rfl), gW_in _ (tb_9 _ (List.mem_of_getElem? (i := 98) rfl)) rfl, gW_in _ (tp_10 _ (List.mem_of_getElem? (i := 6) rfl)) rfl⟩
theorem lk_X12_476 : LkV RX12 476 yX12_flow := ⟨Or.inl (gW_in _ (tb_9 _ (List.mem_of_getElem? (i := 111) rfl)) rfl), gW_in _ (tb_9 _ (List.mem_of_getElem? (i := 113) rfl)) rfl, gW_in _ (tp_10 _ (List.mem_of_getElem? (i := 9) rfl)) rfl⟩
theorem lk_X12_479 : LkV RX12 479 yX12_heat := ⟨Or.inl (gW_in _ (tb_9 _ (List.mem_of_getElem? (i := 115) rfl)) rfl), gW_in _ (tb_9 _ (List.mem_of_getElem? (i := 117) rfl)) rfl, gW_in _ (tp_10 _ (List.mem_of_getElem? (i := 10) rfl)) rfl⟩
theorem lk_X12_482 : LkV RX12 482 yX12_frames := ⟨Or.inl (gW_in _ (tb_9 _ (List.mem_of_getElem? (i := 123) rfl)) rfl), gW_in _ (tb_9 _ (List.mem_of_getElem? (i := 125) rfl)) rfl, gW_in _ (tp_10 _ (List.mem_of_getElem? (i := 12) rfl)) rfl⟩
theorem lk_X12_485 : LkV RX12 485 yX12_downlink := ⟨Or.inl (gW_in _ (tb_9 _ (List.mem_of_getElem? (i := 139) rfl)) rfl), gW_in _ (tb_9 _ (List.mem_of_getElem? (i := 141) rfl)) rfl, gW_in _ (tp_11 _ (List.mem_of_getElem? (i := 0) rfl)) rfl⟩
theorem lk_X12_488 : LkV RX12 488 yX12_fail := ⟨Or.inl (gW_in _ (tb_8 _ (List.mem_of_getElem? (i := 239) rfl)) rfl), gW_in _ (tb_9 _ (List.mem_of_getElem? (i := 1) rfl)) rfl, gW_in _ (tp_9 _ (List.mem_of_getElem? (i := 0) rfl)) rfl⟩
theorem lk_X12_491 : LkV RX12 491 yX12_doTick := ⟨Or.inl (gW_in _ (tb_9 _ (List.mem_of_getElem? (i := 3) rfl)) rfl), gW_in _ (tb_9 _ (List.mem_of_getElem? (i := 5) rfl)) rfl, gW_in _ (tp_9 _ (List.mem_of_getElem? (i := 1) rfl)) rfl⟩
theorem lk_X12_494 : LkV RX12 494 yX12_isUnit := ⟨Or.inl (gW_in _ (tb_9 _ (List.mem_of_getElem? (i := 167) rfl)) rfl), gW_in _ (tb_9 _ (List.mem_of_getElem? (i := 169) rfl)) rfl, gW_in _ (tp_11 _ (List.mem_of_getElem? (i := 6) rfl)) rfl⟩
theorem lk_X12_497 : LkV RX12 497 yX12_canAct := ⟨Or.inl (gW_in _ (tb_9 _ (List.mem_of_getElem? (i := 163) rfl)) rfl), gW_in _ (tb_9 _ (List.mem_of_getElem? (i := 165) rfl)) rfl, gW_in _ (tp_11 _ (List.mem_of_getElem? (i := 5) rfl)) rfl⟩
theorem lk_X12_500 : LkV RX12 500 yX12_hasPart := ⟨Or.inl (gW_in _ (tb_9 _ (List.mem_of_getElem? (i := 175) rfl)) rfl), gW_in _ (tb_9 _ (List.mem_of_getElem? (i := 177) rfl)) rfl, gW_in _ (tp_11 _ (List.mem_of_getElem? (i := 7) rfl)) rfl⟩
theorem lc_J9_abs_0f7a4 : LkC yJ9_abs_0f7a4 cJ9_abs_0f7a4 1 (some .int) 1 := ⟨gW_in _ (tb_5 _ (List.mem_of_getElem? (i := 214) rfl)) rfl, gW_in _ (tb_1 _ (List.mem_of_getElem? (i := 23) rfl)) rfl, by decide +kernel⟩
theorem lc_J9_floorMod_7cf53 : LkC yJ9_floorMod_7cf53 cJ9_floorMod_7cf53 3 (some .int) 2 := ⟨gW_in _ (tb_2 _ (List.mem_of_getElem? (i := 191) rfl)) rfl, gW_in _ (tb_1 _ (List.mem_of_getElem? (i := 23) rfl)) rfl, by decide +kernel⟩
theorem lc_J9_max_7cf53 : LkC yJ9_max_7cf53 cJ9_max_7cf53 2 (some .int) 2 := ⟨gW_in _ (tb_4 _ (List.mem_of_getElem? (i := 100) rfl)) rfl, gW_in _ (tb_1 _ (List.mem_of_getElem? (i := 23) rfl)) rfl, by decide +kernel⟩
theorem lc_J9_min_7cf53 : LkC yJ9_min_7cf53 cJ9_min_7cf53 2 (some .int) 2 := ⟨gW_in _ (tb_6 _ (List.mem_of_getElem? (i := 82) rfl)) rfl, gW_in _ (tb_1 _ (List.mem_of_getElem? (i := 23) rfl)) rfl, by decide +kernel⟩
theorem lc_X0_layerOf : LkC yX0_layerOf cX0_layerOf 2 (some .int) 1 := ⟨gW_in _ (tb_4 _ (List.mem_of_getElem? (i := 30) rfl)) rfl, gW_in _ (tb_1 _ (List.mem_of_getElem? (i := 5) rfl)) rfl, by decide +kernel⟩
theorem lc_X10_addressNow : LkC yX10_addressNow cX10_addressNow 1 (some .int) 0 := ⟨gW_in _ (tb_2 _ (List.mem_of_getElem? (i := 223) rfl)) rfl, gW_in _ (tb_1 _ (List.mem_of_getElem? (i := 2) rfl)) rfl, by decide +kernel⟩
theorem lc_X10_draw : LkC yX10_draw cX10_draw 1 (some .int) 0 := ⟨gW_in _ (tb_4 _ (List.mem_of_getElem? (i := 89) rfl)) rfl, gW_in _ (tb_1 _ (List.mem_of_getElem? (i := 2) rfl)) rfl, by decide +kernel⟩
theorem lc_X10_drawsTaken : LkC yX10_drawsTaken cX10_drawsTaken 1 (some .int) 0 := ⟨gW_in _ (tb_2 _ (List.mem_of_getElem? (i := 219) rfl)) rfl, gW_in _ (tb_1 _ (List.mem_of_getElem? (i := 2) rfl)) rfl, by decide +kernel⟩
theorem lc_X10_has : LkC yX10_has cX10_has 2 (some .boolean) 1 := ⟨gW_in _ (tb_2 _ (List.mem_of_getElem? (i := 176) rfl)) rfl, gW_in _ (tb_1 _ (List.mem_of_getElem? (i := 2) rfl)) rfl, by decide +kernel⟩
theorem lc_X10_jot : LkC yX10_jot cX10_jot 5 none 3 := ⟨gW_in _ (tb_4 _ (List.mem_of_getElem? (i := 108) rfl)) rfl, gW_in _ (tb_1 _ (List.mem_of_getElem? (i := 2) rfl)) rfl, by decide +kernel⟩
theorem lc_X10_judge : LkC yX10_judge cX10_judge 3 none 1 := ⟨gW_in _ (tb_4 _ (List.mem_of_getElem? (i := 236) rfl)) rfl, gW_in _ (tb_1 _ (List.mem_of_getElem? (i := 2) rfl)) rfl, by decide +kernel⟩
theorem lc_X10_make : LkC yX10_make cX10_make 4 none 2 := ⟨gW_in _ (tb_4 _ (List.mem_of_getElem? (i := 77) rfl)) rfl, gW_in _ (tb_1 _ (List.mem_of_getElem? (i := 2) rfl)) rfl, by decide +kernel⟩
theorem lc_X10_makeActuator : LkC yX10_makeActuator cX10_makeActuator 3 none 1 := ⟨gW_in _ (tb_4 _ (List.mem_of_getElem? (i := 176) rfl)) rfl, gW_in _ (tb_1 _ (List.mem_of_getElem? (i := 2) rfl)) rfl, by decide +kernel⟩
theorem lc_X10_makeBattery : LkC yX10_makeBattery cX10_makeBattery 3 none 1 := ⟨gW_in _ (tb_4 _ (List.mem_of_getElem? (i := 116) rfl)) rfl, gW_in _ (tb_1 _ (List.mem_of_getElem? (i := 2) rfl)) rfl, by decide +kernel⟩
theorem lc_X10_makeBeacon : LkC yX10_makeBeacon cX10_makeBeacon 3 none 1 := ⟨gW_in _ (tb_4 _ (List.mem_of_getElem? (i := 204) rfl)) rfl, gW_in _ (tb_1 _ (List.mem_of_getElem? (i := 2) rfl)) rfl, by decide +kernel⟩
theorem lc_X10_makeCamera : LkC yX10_makeCamera cX10_makeCamera 3 none 1 := ⟨gW_in _ (tb_4 _ (List.mem_of_getElem? (i := 172) rfl)) rfl, gW_in _ (tb_1 _ (List.mem_of_getElem? (i := 2) rfl)) rfl, by decide +kernel⟩
theorem lc_X10_makeCellpack : LkC yX10_makeCellpack cX10_makeCellpack 3 none 1 := ⟨gW_in _ (tb_4 _ (List.mem_of_getElem? (i := 124) rfl)) rfl, gW_in _ (tb_1 _ (List.mem_of_getElem? (i := 2) rfl)) rfl, by decide +kernel⟩
theorem lc_X10_makeCoil : LkC yX10_makeCoil cX10_makeCoil 3 none 1 := ⟨gW_in _ (tb_4 _ (List.mem_of_getElem? (i := 188) rfl)) rfl, gW_in _ (tb_1 _ (List.mem_of_getElem? (i := 2) rfl)) rfl, by decide +kernel⟩
theorem lc_X10_makeFinegyro : LkC yX10_makeFinegyro cX10_makeFinegyro 3 none 1 := ⟨gW_in _ (tb_4 _ (List.mem_of_getElem? (i := 160) rfl)) rfl, gW_in _ (tb_1 _ (List.mem_of_getElem? (i := 2) rfl)) rfl, by decide +kernel⟩
theorem lc_X10_makeGenerator : LkC yX10_makeGenerator cX10_makeGenerator 3 none 1 := ⟨gW_in _ (tb_4 _ (List.mem_of_getElem? (i := 220) rfl)) rfl, gW_in _ (tb_1 _ (List.mem_of_getElem? (i := 2) rfl)) rfl, by decide +kernel⟩
theorem lc_X10_makeGyro : LkC yX10_makeGyro cX10_makeGyro 3 none 1 := ⟨gW_in _ (tb_4 _ (List.mem_of_getElem? (i := 156) rfl)) rfl, gW_in _ (tb_1 _ (List.mem_of_getElem? (i := 2) rfl)) rfl, by decide +kernel⟩
theorem lc_X10_makeHeater : LkC yX10_makeHeater cX10_makeHeater 3 none 1 := ⟨gW_in _ (tb_4 _ (List.mem_of_getElem? (i := 140) rfl)) rfl, gW_in _ (tb_1 _ (List.mem_of_getElem? (i := 2) rfl)) rfl, by decide +kernel⟩
theorem lc_X10_makeHose : LkC yX10_makeHose cX10_makeHose 3 none 1 := ⟨gW_in _ (tb_4 _ (List.mem_of_getElem? (i := 232) rfl)) rfl, gW_in _ (tb_1 _ (List.mem_of_getElem? (i := 2) rfl)) rfl, by decide +kernel⟩
theorem lc_X10_makeJet : LkC yX10_makeJet cX10_makeJet 3 none 1 := ⟨gW_in _ (tb_4 _ (List.mem_of_getElem? (i := 192) rfl)) rfl, gW_in _ (tb_1 _ (List.mem_of_getElem? (i := 2) rfl)) rfl, by decide +kernel⟩
theorem lc_X10_makeLink : LkC yX10_makeLink cX10_makeLink 3 none 1 := ⟨gW_in _ (tb_4 _ (List.mem_of_getElem? (i := 224) rfl)) rfl, gW_in _ (tb_1 _ (List.mem_of_getElem? (i := 2) rfl)) rfl, by decide +kernel⟩
theorem lc_X10_makeLoad : LkC yX10_makeLoad cX10_makeLoad 3 none 1 := ⟨gW_in _ (tb_4 _ (List.mem_of_getElem? (i := 136) rfl)) rfl, gW_in _ (tb_1 _ (List.mem_of_getElem? (i := 2) rfl)) rfl, by decide +kernel⟩
theorem lc_X10_makePanel : LkC yX10_makePanel cX10_makePanel 3 none 1 := ⟨gW_in _ (tb_4 _ (List.mem_of_getElem? (i := 212) rfl)) rfl, gW_in _ (tb_1 _ (List.mem_of_getElem? (i := 2) rfl)) rfl, by decide +kernel⟩
theorem lc_X10_makePipe : LkC yX10_makePipe cX10_makePipe 3 none 1 := ⟨gW_in _ (tb_4 _ (List.mem_of_getElem? (i := 228) rfl)) rfl, gW_in _ (tb_1 _ (List.mem_of_getElem? (i := 2) rfl)) rfl, by decide +kernel⟩
theorem lc_X10_makeProbe : LkC yX10_makeProbe cX10_makeProbe 3 none 1 := ⟨gW_in _ (tb_4 _ (List.mem_of_getElem? (i := 168) rfl)) rfl, gW_in _ (tb_1 _ (List.mem_of_getElem? (i := 2) rfl)) rfl, by decide +kernel⟩
theorem lc_X10_makePulser : LkC yX10_makePulser cX10_makePulser 3 none 1 := ⟨gW_in _ (tb_4 _ (List.mem_of_getElem? (i := 196) rfl)) rfl, gW_in _ (tb_1 _ (List.mem_of_getElem? (i := 2) rfl)) rfl, by decide +kernel⟩
theorem lc_X10_makeRadio : LkC yX10_makeRadio cX10_makeRadio 3 none 1 := ⟨gW_in _ (tb_4 _ (List.mem_of_getElem? (i := 200) rfl)) rfl, gW_in _ (tb_1 _ (List.mem_of_getElem? (i := 2) rfl)) rfl, by decide +kernel⟩
theorem lc_X10_makeRecorder : LkC yX10_makeRecorder cX10_makeRecorder 3 none 1 := ⟨gW_in _ (tb_4 _ (List.mem_of_getElem? (i := 132) rfl)) rfl, gW_in _ (tb_1 _ (List.mem_of_getElem? (i := 2) rfl)) rfl, by decide +kernel⟩
theorem lc_X10_makeSensor : LkC yX10_makeSensor cX10_makeSensor 3 none 1 := ⟨gW_in _ (tb_4 _ (List.mem_of_getElem? (i := 148) rfl)) rfl, gW_in _ (tb_1 _ (List.mem_of_getElem? (i := 2) rfl)) rfl, by decide +kernel⟩
theorem lc_X10_makeSource : LkC yX10_makeSource cX10_makeSource 3 none 1 := ⟨gW_in _ (tb_4 _ (List.mem_of_getElem? (i := 208) rfl)) rfl, gW_in _ (tb_1 _ (List.mem_of_getElem? (i := 2) rfl)) rfl, by decide +kernel⟩
theorem lc_X10_makeStore : LkC yX10_makeStore cX10_makeStore 3 none 1 := ⟨gW_in _ (tb_4 _ (List.mem_of_getElem? (i := 112) rfl)) rfl, gW_in _ (tb_1 _ (List.mem_of_getElem? (i := 2) rfl)) rfl, by decide +kernel⟩
theorem lc_X10_makeSuneye : LkC yX10_makeSuneye cX10_makeSuneye 3 none 1 := ⟨gW_in _ (tb_4 _ (List.mem_of_getElem? (i := 164) rfl)) rfl, gW_in _ (tb_1 _ (List.mem_of_getElem? (i := 2) rfl)) rfl, by decide +kernel⟩
theorem lc_X10_makeTank : LkC yX10_makeTank cX10_makeTank 3 none 1 := ⟨gW_in _ (tb_4 _ (List.mem_of_getElem? (i := 128) rfl)) rfl, gW_in _ (tb_1 _ (List.mem_of_getElem? (i := 2) rfl)) rfl, by decide +kernel⟩
theorem lc_X10_makeThermo : LkC yX10_makeThermo cX10_makeThermo 3 none 1 := ⟨gW_in _ (tb_4 _ (List.mem_of_getElem? (i := 144) rfl)) rfl, gW_in _ (tb_1 _ (List.mem_of_getElem? (i := 2) rfl)) rfl, by decide +kernel⟩
theorem lc_X10_makeTracker : LkC yX10_makeTracker cX10_makeTracker 3 none 1 := ⟨gW_in _ (tb_4 _ (List.mem_of_getElem? (i := 216) rfl)) rfl, gW_in _ (tb_1 _ (List.mem_of_getElem? (i := 2) rfl)) rfl, by decide +kernel⟩
theorem lc_X10_makeUnit : LkC yX10_makeUnit cX10_makeUnit 3 none 1 := ⟨gW_in _ (tb_4 _ (List.mem_of_getElem? (i := 85) rfl)) rfl, gW_in _ (tb_1 _ (List.mem_of_getElem? (i := 2) rfl)) rfl, by decide +kernel⟩
theorem lc_X10_makeWheel : LkC yX10_makeWheel cX10_makeWheel 3 none 1 := ⟨gW_in _ (tb_4 _ (List.mem_of_getElem? (i := 184) rfl)) rfl, gW_in _ (tb_1 _ (List.mem_of_getElem? (i := 2) rfl)) rfl, by decide +kernel⟩
theorem lc_X10_notesTaken : LkC yX10_notesTaken cX10_notesTaken 1 (some .int) 0 := ⟨gW_in _ (tb_2 _ (List.mem_of_getElem? (i := 231) rfl)) rfl, gW_in _ (tb_1 _ (List.mem_of_getElem? (i := 2) rfl)) rfl, by decide +kernel⟩
theorem lc_X10_reserveNow : LkC yX10_reserveNow cX10_reserveNow 1 (some .int) 0 := ⟨gW_in _ (tb_2 _ (List.mem_of_getElem? (i := 227) rfl)) rfl, gW_in _ (tb_1 _ (List.mem_of_getElem? (i := 2) rfl)) rfl, by decide +kernel⟩
theorem lc_X10_restart : LkC yX10_restart cX10_restart 2 (some .boolean) 1 := ⟨gW_in _ (tb_5 _ (List.mem_of_getElem? (i := 189) rfl)) rfl, gW_in _ (tb_1 _ (List.mem_of_getElem? (i := 2) rfl)) rfl, by decide +kernel⟩
theorem lc_X10_restartsDone : LkC yX10_restartsDone cX10_restartsDone 1 (some .int) 0 := ⟨gW_in _ (tb_2 _ (List.mem_of_getElem? (i := 239) rfl)) rfl, gW_in _ (tb_1 _ (List.mem_of_getElem? (i := 2) rfl)) rfl, by decide +kernel⟩
theorem lc_X10_size : LkC yX10_size cX10_size 1 (some .int) 0 := ⟨gW_in _ (tb_2 _ (List.mem_of_getElem? (i := 215) rfl)) rfl, gW_in _ (tb_1 _ (List.mem_of_getElem? (i := 2) rfl)) rfl, by decide +kernel⟩
theorem lc_X10_unitAt : LkC yX10_unitAt cX10_unitAt 2 (some (.object "SmallCraft$Unit")) 1 := ⟨gW_in _ (tb_2 _ (List.mem_of_getElem? (i := 172) rfl)) rfl, gW_in _ (tb_1 _ (List.mem_of_getElem? (i := 2) rfl)) rfl, by decide +kernel⟩
theorem lc_X10_unitTitled : LkC yX10_unitTitled cX10_unitTitled 4 (some .int) 1 := ⟨gW_in _ (tb_5 _ (List.mem_of_getElem? (i := 73) rfl)) rfl, gW_in _ (tb_1 _ (List.mem_of_getElem? (i := 2) rfl)) rfl, by decide +kernel⟩
theorem lc_X10_unitWithAddress : LkC yX10_unitWithAddress cX10_unitWithAddress 6 (some .int) 1 := ⟨gW_in _ (tb_2 _ (List.mem_of_getElem? (i := 168) rfl)) rfl, gW_in _ (tb_1 _ (List.mem_of_getElem? (i := 2) rfl)) rfl, by decide +kernel⟩
theorem lc_X11_isMultiple : LkC yX11_isMultiple cX11_isMultiple 2 (some .boolean) 2 := ⟨gW_in _ (tb_5 _ (List.mem_of_getElem? (i := 165) rfl)) rfl, gW_in _ (tb_1 _ (List.mem_of_getElem? (i := 1) rfl)) rfl, by decide +kernel⟩
theorem lc_X11_limit : LkC yX11_limit cX11_limit 3 (some .int) 3 := ⟨gW_in _ (tb_6 _ (List.mem_of_getElem? (i := 13) rfl)) rfl, gW_in _ (tb_1 _ (List.mem_of_getElem? (i := 1) rfl)) rfl, by decide +kernel⟩
theorem lc_X11_off : LkC yX11_off cX11_off 2 (some .int) 2 := ⟨gW_in _ (tb_5 _ (List.mem_of_getElem? (i := 211) rfl)) rfl, gW_in _ (tb_1 _ (List.mem_of_getElem? (i := 1) rfl)) rfl, by decide +kernel⟩
theorem lc_X11_within : LkC yX11_within cX11_within 3 (some .boolean) 3 := ⟨gW_in _ (tb_3 _ (List.mem_of_getElem? (i := 189) rfl)) rfl, gW_in _ (tb_1 _ (List.mem_of_getElem? (i := 1) rfl)) rfl, by decide +kernel⟩
theorem lc_X12_acts : LkC yX12_acts cX12_acts 5 (some .boolean) 3 := ⟨gW_in _ (tb_9 _ (List.mem_of_getElem? (i := 26) rfl)) rfl, gW_in _ (tb_1 _ (List.mem_of_getElem? (i := 12) rfl)) rfl, by decide +kernel⟩
theorem lc_X12_amount : LkC yX12_amount cX12_amount 1 (some .int) 1 := ⟨gW_in _ (tb_9 _ (List.mem_of_getElem? (i := 52) rfl)) rfl, gW_in _ (tb_1 _ (List.mem_of_getElem? (i := 12) rfl)) rfl, by decide +kernel⟩
theorem lc_X12_answer : LkC yX12_answer cX12_answer 7 (some .int) 2 := ⟨gW_in _ (tb_8 _ (List.mem_of_getElem? (i := 139) rfl)) rfl, gW_in _ (tb_1 _ (List.mem_of_getElem? (i := 12) rfl)) rfl, by decide +kernel⟩
theorem lc_X12_begins : LkC yX12_begins cX12_begins 3 (some .boolean) 1 := ⟨gW_in _ (tb_8 _ (List.mem_of_getElem? (i := 37) rfl)) rfl, gW_in _ (tb_1 _ (List.mem_of_getElem? (i := 12) rfl)) rfl, by decide +kernel⟩
theorem lc_X12_brownout : LkC yX12_brownout cX12_brownout 3 none 0 := ⟨gW_in _ (tb_9 _ (List.mem_of_getElem? (i := 110) rfl)) rfl, gW_in _ (tb_1 _ (List.mem_of_getElem? (i := 12) rfl)) rfl, by decide +kernel⟩
theorem lc_X12_byteAt : LkC yX12_byteAt cX12_byteAt 2 (some .int) 1 := ⟨gW_in _ (tb_8 _ (List.mem_of_getElem? (i := 49) rfl)) rfl, gW_in _ (tb_1 _ (List.mem_of_getElem? (i := 12) rfl)) rfl, by decide +kernel⟩
theorem lc_X12_canAct : LkC yX12_canAct cX12_canAct 4 (some .boolean) 3 := ⟨gW_in _ (tb_9 _ (List.mem_of_getElem? (i := 166) rfl)) rfl, gW_in _ (tb_1 _ (List.mem_of_getElem? (i := 12) rfl)) rfl, by decide +kernel⟩
theorem lc_X12_channelsBy : LkC yX12_channelsBy cX12_channelsBy 4 (some .int) 3 := ⟨gW_in _ (tb_8 _ (List.mem_of_getElem? (i := 166) rfl)) rfl, gW_in _ (tb_1 _ (List.mem_of_getElem? (i := 12) rfl)) rfl, by decide +kernel⟩
theorem lc_X12_charge : LkC yX12_charge cX12_charge 4 (some .int) 0 := ⟨gW_in _ (tb_9 _ (List.mem_of_getElem? (i := 130) rfl)) rfl, gW_in _ (tb_1 _ (List.mem_of_getElem? (i := 12) rfl)) rfl, by decide +kernel⟩
theorem lc_X12_check : LkC yX12_check cX12_check 4 (some .int) 0 := ⟨gW_in _ (tb_9 _ (List.mem_of_getElem? (i := 138) rfl)) rfl, gW_in _ (tb_1 _ (List.mem_of_getElem? (i := 12) rfl)) rfl, by decide +kernel⟩
theorem lc_X12_clear : LkC yX12_clear cX12_clear 2 none 0 := ⟨gW_in _ (tb_8 _ (List.mem_of_getElem? (i := 107) rfl)) rfl, gW_in _ (tb_1 _ (List.mem_of_getElem? (i := 12) rfl)) rfl, by decide +kernel⟩
theorem lc_X12_control : LkC yX12_control cX12_control 2 none 0 := ⟨gW_in _ (tb_9 _ (List.mem_of_getElem? (i := 64) rfl)) rfl, gW_in _ (tb_1 _ (List.mem_of_getElem? (i := 12) rfl)) rfl, by decide +kernel⟩
theorem lc_X12_doPlan : LkC yX12_doPlan cX12_doPlan 2 none 0 := ⟨gW_in _ (tb_9 _ (List.mem_of_getElem? (i := 14) rfl)) rfl, gW_in _ (tb_1 _ (List.mem_of_getElem? (i := 12) rfl)) rfl, by decide +kernel⟩
theorem lc_X12_doTick : LkC yX12_doTick cX12_doTick 1 none 0 := ⟨gW_in _ (tb_9 _ (List.mem_of_getElem? (i := 6) rfl)) rfl, gW_in _ (tb_1 _ (List.mem_of_getElem? (i := 12) rfl)) rfl, by decide +kernel⟩
theorem lc_X12_downlink : LkC yX12_downlink cX12_downlink 2 none 0 := ⟨gW_in _ (tb_9 _ (List.mem_of_getElem? (i := 142) rfl)) rfl, gW_in _ (tb_1 _ (List.mem_of_getElem? (i := 12) rfl)) rfl, by decide +kernel⟩
theorem lc_X12_draw : LkC yX12_draw cX12_draw 1 (some .int) 0 := ⟨gW_in _ (tb_8 _ (List.mem_of_getElem? (i := 135) rfl)) rfl, gW_in _ (tb_1 _ (List.mem_of_getElem? (i := 12) rfl)) rfl, by decide +kernel⟩
theorem lc_X12_fail : LkC yX12_fail cX12_fail 2 (some .int) 1 := ⟨gW_in _ (tb_9 _ (List.mem_of_getElem? (i := 2) rfl)) rfl, gW_in _ (tb_1 _ (List.mem_of_getElem? (i := 12) rfl)) rfl, by decide +kernel⟩
theorem lc_X12_findLayers : LkC yX12_findLayers cX12_findLayers 5 (some .int) 1 := ⟨gW_in _ (tb_8 _ (List.mem_of_getElem? (i := 123) rfl)) rfl, gW_in _ (tb_1 _ (List.mem_of_getElem? (i := 12) rfl)) rfl, by decide +kernel⟩
theorem lc_X12_firstJet : LkC yX12_firstJet cX12_firstJet 5 (some .int) 1 := ⟨gW_in _ (tb_9 _ (List.mem_of_getElem? (i := 91) rfl)) rfl, gW_in _ (tb_1 _ (List.mem_of_getElem? (i := 12) rfl)) rfl, by decide +kernel⟩
theorem lc_X12_firstKeeping : LkC yX12_firstKeeping cX12_firstKeeping 3 (some .int) 0 := ⟨gW_in _ (tb_9 _ (List.mem_of_getElem? (i := 158) rfl)) rfl, gW_in _ (tb_1 _ (List.mem_of_getElem? (i := 12) rfl)) rfl, by decide +kernel⟩
theorem lc_X12_firstOn : LkC yX12_firstOn cX12_firstOn 5 (some .int) 2 := ⟨gW_in _ (tb_9 _ (List.mem_of_getElem? (i := 76) rfl)) rfl, gW_in _ (tb_1 _ (List.mem_of_getElem? (i := 12) rfl)) rfl, by decide +kernel⟩
theorem lc_X12_fits : LkC yX12_fits cX12_fits 4 (some .boolean) 3 := ⟨gW_in _ (tb_8 _ (List.mem_of_getElem? (i := 88) rfl)) rfl, gW_in _ (tb_1 _ (List.mem_of_getElem? (i := 12) rfl)) rfl, by decide +kernel⟩
theorem lc_X12_fitsLoad : LkC yX12_fitsLoad cX12_fitsLoad 4 (some .boolean) 3 := ⟨gW_in _ (tb_8 _ (List.mem_of_getElem? (i := 99) rfl)) rfl, gW_in _ (tb_1 _ (List.mem_of_getElem? (i := 12) rfl)) rfl, by decide +kernel⟩
theorem lc_X12_flow : LkC yX12_flow cX12_flow 8 none 0 := ⟨gW_in _ (tb_9 _ (List.mem_of_getElem? (i := 114) rfl)) rfl, gW_in _ (tb_1 _ (List.mem_of_getElem? (i := 12) rfl)) rfl, by decide +kernel⟩
theorem lc_X12_frames : LkC yX12_frames cX12_frames 3 none 0 := ⟨gW_in _ (tb_9 _ (List.mem_of_getElem? (i := 126) rfl)) rfl, gW_in _ (tb_1 _ (List.mem_of_getElem? (i := 12) rfl)) rfl, by decide +kernel⟩
theorem lc_X12_get : LkC yX12_get cX12_get 3 (some .int) 2 := ⟨gW_in _ (tb_8 _ (List.mem_of_getElem? (i := 143) rfl)) rfl, gW_in _ (tb_1 _ (List.mem_of_getElem? (i := 12) rfl)) rfl, by decide +kernel⟩
theorem lc_X12_given : LkC yX12_given cX12_given 4 (some .int) 1 := ⟨gW_in _ (tb_9 _ (List.mem_of_getElem? (i := 103) rfl)) rfl, gW_in _ (tb_1 _ (List.mem_of_getElem? (i := 12) rfl)) rfl, by decide +kernel⟩
theorem lc_X12_goesDown : LkC yX12_goesDown cX12_goesDown 3 none 2 := ⟨gW_in _ (tb_9 _ (List.mem_of_getElem? (i := 146) rfl)) rfl, gW_in _ (tb_1 _ (List.mem_of_getElem? (i := 12) rfl)) rfl, by decide +kernel⟩
theorem lc_X12_grow : LkC yX12_grow cX12_grow 4 none 3 := ⟨gW_in _ (tb_8 _ (List.mem_of_getElem? (i := 202) rfl)) rfl, gW_in _ (tb_1 _ (List.mem_of_getElem? (i := 12) rfl)) rfl, by decide +kernel⟩
theorem lc_X12_has : LkC yX12_has cX12_has 4 (some .boolean) 2 := ⟨gW_in _ (tb_8 _ (List.mem_of_getElem? (i := 119) rfl)) rfl, gW_in _ (tb_1 _ (List.mem_of_getElem? (i := 12) rfl)) rfl, by decide +kernel⟩
theorem lc_X12_hasPart : LkC yX12_hasPart cX12_hasPart 3 (some .boolean) 2 := ⟨gW_in _ (tb_9 _ (List.mem_of_getElem? (i := 178) rfl)) rfl, gW_in _ (tb_1 _ (List.mem_of_getElem? (i := 12) rfl)) rfl, by decide +kernel⟩
theorem lc_X12_hasRoom : LkC yX12_hasRoom cX12_hasRoom 3 (some .boolean) 2 := ⟨gW_in _ (tb_9 _ (List.mem_of_getElem? (i := 56) rfl)) rfl, gW_in _ (tb_1 _ (List.mem_of_getElem? (i := 12) rfl)) rfl, by decide +kernel⟩
theorem lc_X12_heat : LkC yX12_heat cX12_heat 3 none 0 := ⟨gW_in _ (tb_9 _ (List.mem_of_getElem? (i := 118) rfl)) rfl, gW_in _ (tb_1 _ (List.mem_of_getElem? (i := 12) rfl)) rfl, by decide +kernel⟩
theorem lc_X12_heated : LkC yX12_heated cX12_heated 7 (some .int) 1 := ⟨gW_in _ (tb_9 _ (List.mem_of_getElem? (i := 122) rfl)) rfl, gW_in _ (tb_1 _ (List.mem_of_getElem? (i := 12) rfl)) rfl, by decide +kernel⟩
theorem lc_X12_howMany : LkC yX12_howMany cX12_howMany 4 (some .int) 1 := ⟨gW_in _ (tb_9 _ (List.mem_of_getElem? (i := 134) rfl)) rfl, gW_in _ (tb_1 _ (List.mem_of_getElem? (i := 12) rfl)) rfl, by decide +kernel⟩
theorem lc_X12_in : LkC yX12_in cX12_in 3 (some .boolean) 3 := ⟨gW_in _ (tb_8 _ (List.mem_of_getElem? (i := 91) rfl)) rfl, gW_in _ (tb_1 _ (List.mem_of_getElem? (i := 12) rfl)) rfl, by decide +kernel⟩
theorem lc_X12_inView : LkC yX12_inView cX12_inView 1 (some .boolean) 0 := ⟨gW_in _ (tb_9 _ (List.mem_of_getElem? (i := 150) rfl)) rfl, gW_in _ (tb_1 _ (List.mem_of_getElem? (i := 12) rfl)) rfl, by decide +kernel⟩
theorem lc_X12_isA : LkC yX12_isA cX12_isA 3 (some .boolean) 2 := ⟨gW_in _ (tb_8 _ (List.mem_of_getElem? (i := 226) rfl)) rfl, gW_in _ (tb_1 _ (List.mem_of_getElem? (i := 12) rfl)) rfl, by decide +kernel⟩
theorem lc_X12_isDigit : LkC yX12_isDigit cX12_isDigit 1 (some .boolean) 1 := ⟨gW_in _ (tb_8 _ (List.mem_of_getElem? (i := 59) rfl)) rfl, gW_in _ (tb_1 _ (List.mem_of_getElem? (i := 12) rfl)) rfl, by decide +kernel⟩
theorem lc_X12_isDue : LkC yX12_isDue cX12_isDue 7 (some .boolean) 1 := ⟨gW_in _ (tb_9 _ (List.mem_of_getElem? (i := 18) rfl)) rfl, gW_in _ (tb_1 _ (List.mem_of_getElem? (i := 12) rfl)) rfl, by decide +kernel⟩
theorem lc_X12_isLetter : LkC yX12_isLetter cX12_isLetter 1 (some .boolean) 1 := ⟨gW_in _ (tb_8 _ (List.mem_of_getElem? (i := 52) rfl)) rfl, gW_in _ (tb_1 _ (List.mem_of_getElem? (i := 12) rfl)) rfl, by decide +kernel⟩
theorem lc_X12_isNew : LkC yX12_isNew cX12_isNew 3 (some .boolean) 2 := ⟨gW_in _ (tb_8 _ (List.mem_of_getElem? (i := 95) rfl)) rfl, gW_in _ (tb_1 _ (List.mem_of_getElem? (i := 12) rfl)) rfl, by decide +kernel⟩
theorem lc_X12_isOn : LkC yX12_isOn cX12_isOn 2 (some .boolean) 1 := ⟨gW_in _ (tb_9 _ (List.mem_of_getElem? (i := 42) rfl)) rfl, gW_in _ (tb_1 _ (List.mem_of_getElem? (i := 12) rfl)) rfl, by decide +kernel⟩
theorem lc_X12_isUnit : LkC yX12_isUnit cX12_isUnit 2 (some .boolean) 1 := ⟨gW_in _ (tb_9 _ (List.mem_of_getElem? (i := 170) rfl)) rfl, gW_in _ (tb_1 _ (List.mem_of_getElem? (i := 12) rfl)) rfl, by decide +kernel⟩
theorem lc_X12_isWhole : LkC yX12_isWhole cX12_isWhole 2 (some .boolean) 1 := ⟨gW_in _ (tb_9 _ (List.mem_of_getElem? (i := 34) rfl)) rfl, gW_in _ (tb_1 _ (List.mem_of_getElem? (i := 12) rfl)) rfl, by decide +kernel⟩
theorem lc_X12_keep : LkC yX12_keep cX12_keep 3 none 2 := ⟨gW_in _ (tb_9 _ (List.mem_of_getElem? (i := 60) rfl)) rfl, gW_in _ (tb_1 _ (List.mem_of_getElem? (i := 12) rfl)) rfl, by decide +kernel⟩
theorem lc_X12_least : LkC yX12_least cX12_least 2 (some .int) 2 := ⟨gW_in _ (tb_9 _ (List.mem_of_getElem? (i := 106) rfl)) rfl, gW_in _ (tb_1 _ (List.mem_of_getElem? (i := 12) rfl)) rfl, by decide +kernel⟩
theorem lc_X12_limit : LkC yX12_limit cX12_limit 3 (some .int) 3 := ⟨gW_in _ (tb_9 _ (List.mem_of_getElem? (i := 79) rfl)) rfl, gW_in _ (tb_1 _ (List.mem_of_getElem? (i := 12) rfl)) rfl, by decide +kernel⟩
theorem lc_X12_make : LkC yX12_make cX12_make 5 none 2 := ⟨gW_in _ (tb_8 _ (List.mem_of_getElem? (i := 111) rfl)) rfl, gW_in _ (tb_1 _ (List.mem_of_getElem? (i := 12) rfl)) rfl, by decide +kernel⟩
theorem lc_X12_makeActuator : LkC yX12_makeActuator cX12_makeActuator 5 none 4 := ⟨gW_in _ (tb_8 _ (List.mem_of_getElem? (i := 190) rfl)) rfl, gW_in _ (tb_1 _ (List.mem_of_getElem? (i := 12) rfl)) rfl, by decide +kernel⟩
theorem lc_X12_makeLayer : LkC yX12_makeLayer cX12_makeLayer 6 none 2 := ⟨gW_in _ (tb_8 _ (List.mem_of_getElem? (i := 127) rfl)) rfl, gW_in _ (tb_1 _ (List.mem_of_getElem? (i := 12) rfl)) rfl, by decide +kernel⟩
theorem lc_X12_makeLink : LkC yX12_makeLink cX12_makeLink 7 none 5 := ⟨gW_in _ (tb_8 _ (List.mem_of_getElem? (i := 198) rfl)) rfl, gW_in _ (tb_1 _ (List.mem_of_getElem? (i := 12) rfl)) rfl, by decide +kernel⟩
theorem lc_X12_makeLoad : LkC yX12_makeLoad cX12_makeLoad 6 none 5 := ⟨gW_in _ (tb_8 _ (List.mem_of_getElem? (i := 182) rfl)) rfl, gW_in _ (tb_1 _ (List.mem_of_getElem? (i := 12) rfl)) rfl, by decide +kernel⟩
theorem lc_X12_makeSensor : LkC yX12_makeSensor cX12_makeSensor 5 none 4 := ⟨gW_in _ (tb_8 _ (List.mem_of_getElem? (i := 186) rfl)) rfl, gW_in _ (tb_1 _ (List.mem_of_getElem? (i := 12) rfl)) rfl, by decide +kernel⟩
theorem lc_X12_makeSource : LkC yX12_makeSource cX12_makeSource 5 none 4 := ⟨gW_in _ (tb_8 _ (List.mem_of_getElem? (i := 194) rfl)) rfl, gW_in _ (tb_1 _ (List.mem_of_getElem? (i := 12) rfl)) rfl, by decide +kernel⟩
theorem lc_X12_makeStore : LkC yX12_makeStore cX12_makeStore 5 none 4 := ⟨gW_in _ (tb_8 _ (List.mem_of_getElem? (i := 178) rfl)) rfl, gW_in _ (tb_1 _ (List.mem_of_getElem? (i := 12) rfl)) rfl, by decide +kernel⟩
theorem lc_X12_makeUnit : LkC yX12_makeUnit cX12_makeUnit 3 none 1 := ⟨gW_in _ (tb_8 _ (List.mem_of_getElem? (i := 131) rfl)) rfl, gW_in _ (tb_1 _ (List.mem_of_getElem? (i := 12) rfl)) rfl, by decide +kernel⟩
theorem lc_X12_many : LkC yX12_many cX12_many 1 (some .int) 1 := ⟨gW_in _ (tb_8 _ (List.mem_of_getElem? (i := 78) rfl)) rfl, gW_in _ (tb_1 _ (List.mem_of_getElem? (i := 12) rfl)) rfl, by decide +kernel⟩
theorem lc_X12_massBy : LkC yX12_massBy cX12_massBy 4 (some .int) 3 := ⟨gW_in _ (tb_8 _ (List.mem_of_getElem? (i := 147) rfl)) rfl, gW_in _ (tb_1 _ (List.mem_of_getElem? (i := 12) rfl)) rfl, by decide +kernel⟩
theorem lc_X12_mod : LkC yX12_mod cX12_mod 3 (some .int) 2 := ⟨gW_in _ (tb_8 _ (List.mem_of_getElem? (i := 154) rfl)) rfl, gW_in _ (tb_1 _ (List.mem_of_getElem? (i := 12) rfl)) rfl, by decide +kernel⟩
theorem lc_X12_named : LkC yX12_named cX12_named 7 (some .int) 2 := ⟨gW_in _ (tb_8 _ (List.mem_of_getElem? (i := 75) rfl)) rfl, gW_in _ (tb_1 _ (List.mem_of_getElem? (i := 12) rfl)) rfl, by decide +kernel⟩
theorem lc_X12_needBy : LkC yX12_needBy cX12_needBy 4 (some .int) 3 := ⟨gW_in _ (tb_8 _ (List.mem_of_getElem? (i := 158) rfl)) rfl, gW_in _ (tb_1 _ (List.mem_of_getElem? (i := 12) rfl)) rfl, by decide +kernel⟩
theorem lc_X12_next : LkC yX12_next cX12_next 2 (some .boolean) 0 := ⟨gW_in _ (tb_8 _ (List.mem_of_getElem? (i := 45) rfl)) rfl, gW_in _ (tb_1 _ (List.mem_of_getElem? (i := 12) rfl)) rfl, by decide +kernel⟩
theorem lc_X12_noted : LkC yX12_noted cX12_noted 4 none 3 := ⟨gW_in _ (tb_8 _ (List.mem_of_getElem? (i := 174) rfl)) rfl, gW_in _ (tb_1 _ (List.mem_of_getElem? (i := 12) rfl)) rfl, by decide +kernel⟩
theorem lc_X12_number : LkC yX12_number cX12_number 3 (some .int) 2 := ⟨gW_in _ (tb_8 _ (List.mem_of_getElem? (i := 84) rfl)) rfl, gW_in _ (tb_1 _ (List.mem_of_getElem? (i := 12) rfl)) rfl, by decide +kernel⟩
theorem lc_X12_off : LkC yX12_off cX12_off 2 (some .int) 2 := ⟨gW_in _ (tb_9 _ (List.mem_of_getElem? (i := 49) rfl)) rfl, gW_in _ (tb_1 _ (List.mem_of_getElem? (i := 12) rfl)) rfl, by decide +kernel⟩
theorem lc_X12_planWord : LkC yX12_planWord cX12_planWord 4 (some .int) 2 := ⟨gW_in _ (tb_8 _ (List.mem_of_getElem? (i := 214) rfl)) rfl, gW_in _ (tb_1 _ (List.mem_of_getElem? (i := 12) rfl)) rfl, by decide +kernel⟩
theorem lc_X12_power : LkC yX12_power cX12_power 5 none 0 := ⟨gW_in _ (tb_9 _ (List.mem_of_getElem? (i := 99) rfl)) rfl, gW_in _ (tb_1 _ (List.mem_of_getElem? (i := 12) rfl)) rfl, by decide +kernel⟩
theorem lc_X12_pushBy : LkC yX12_pushBy cX12_pushBy 4 (some .int) 3 := ⟨gW_in _ (tb_8 _ (List.mem_of_getElem? (i := 170) rfl)) rfl, gW_in _ (tb_1 _ (List.mem_of_getElem? (i := 12) rfl)) rfl, by decide +kernel⟩
theorem lc_X12_readAct : LkC yX12_readAct cX12_readAct 3 none 1 := ⟨gW_in _ (tb_8 _ (List.mem_of_getElem? (i := 230) rfl)) rfl, gW_in _ (tb_1 _ (List.mem_of_getElem? (i := 12) rfl)) rfl, by decide +kernel⟩
theorem lc_X12_readItem : LkC yX12_readItem cX12_readItem 4 (some .boolean) 0 := ⟨gW_in _ (tb_8 _ (List.mem_of_getElem? (i := 210) rfl)) rfl, gW_in _ (tb_1 _ (List.mem_of_getElem? (i := 12) rfl)) rfl, by decide +kernel⟩
theorem lc_X12_readSensor : LkC yX12_readSensor cX12_readSensor 7 none 1 := ⟨gW_in _ (tb_9 _ (List.mem_of_getElem? (i := 46) rfl)) rfl, gW_in _ (tb_1 _ (List.mem_of_getElem? (i := 12) rfl)) rfl, by decide +kernel⟩
theorem lc_X12_readSensors : LkC yX12_readSensors cX12_readSensors 2 none 0 := ⟨gW_in _ (tb_9 _ (List.mem_of_getElem? (i := 38) rfl)) rfl, gW_in _ (tb_1 _ (List.mem_of_getElem? (i := 12) rfl)) rfl, by decide +kernel⟩
theorem lc_X12_readTerm : LkC yX12_readTerm cX12_readTerm 3 none 1 := ⟨gW_in _ (tb_8 _ (List.mem_of_getElem? (i := 218) rfl)) rfl, gW_in _ (tb_1 _ (List.mem_of_getElem? (i := 12) rfl)) rfl, by decide +kernel⟩
theorem lc_X12_readUnit : LkC yX12_readUnit cX12_readUnit 4 (some .boolean) 0 := ⟨gW_in _ (tb_8 _ (List.mem_of_getElem? (i := 41) rfl)) rfl, gW_in _ (tb_1 _ (List.mem_of_getElem? (i := 12) rfl)) rfl, by decide +kernel⟩
theorem lc_X12_send : LkC yX12_send cX12_send 6 none 1 := ⟨gW_in _ (tb_9 _ (List.mem_of_getElem? (i := 154) rfl)) rfl, gW_in _ (tb_1 _ (List.mem_of_getElem? (i := 12) rfl)) rfl, by decide +kernel⟩
theorem lc_X12_set : LkC yX12_set cX12_set 4 none 3 := ⟨gW_in _ (tb_8 _ (List.mem_of_getElem? (i := 115) rfl)) rfl, gW_in _ (tb_1 _ (List.mem_of_getElem? (i := 12) rfl)) rfl, by decide +kernel⟩
theorem lc_X12_shine : LkC yX12_shine cX12_shine 2 none 0 := ⟨gW_in _ (tb_9 _ (List.mem_of_getElem? (i := 10) rfl)) rfl, gW_in _ (tb_1 _ (List.mem_of_getElem? (i := 12) rfl)) rfl, by decide +kernel⟩
theorem lc_X12_sign : LkC yX12_sign cX12_sign 2 none 1 := ⟨gW_in _ (tb_8 _ (List.mem_of_getElem? (i := 103) rfl)) rfl, gW_in _ (tb_1 _ (List.mem_of_getElem? (i := 12) rfl)) rfl, by decide +kernel⟩
theorem lc_X12_slow : LkC yX12_slow cX12_slow 6 none 2 := ⟨gW_in _ (tb_9 _ (List.mem_of_getElem? (i := 87) rfl)) rfl, gW_in _ (tb_1 _ (List.mem_of_getElem? (i := 12) rfl)) rfl, by decide +kernel⟩
theorem lc_X12_spanBy : LkC yX12_spanBy cX12_spanBy 4 (some .int) 3 := ⟨gW_in _ (tb_8 _ (List.mem_of_getElem? (i := 151) rfl)) rfl, gW_in _ (tb_1 _ (List.mem_of_getElem? (i := 12) rfl)) rfl, by decide +kernel⟩
theorem lc_X12_steer : LkC yX12_steer cX12_steer 7 none 1 := ⟨gW_in _ (tb_9 _ (List.mem_of_getElem? (i := 68) rfl)) rfl, gW_in _ (tb_1 _ (List.mem_of_getElem? (i := 12) rfl)) rfl, by decide +kernel⟩
theorem lc_X12_takeNumber : LkC yX12_takeNumber cX12_takeNumber 3 none 0 := ⟨gW_in _ (tb_8 _ (List.mem_of_getElem? (i := 67) rfl)) rfl, gW_in _ (tb_1 _ (List.mem_of_getElem? (i := 12) rfl)) rfl, by decide +kernel⟩
theorem lc_X12_takeWord : LkC yX12_takeWord cX12_takeWord 1 none 0 := ⟨gW_in _ (tb_8 _ (List.mem_of_getElem? (i := 56) rfl)) rfl, gW_in _ (tb_1 _ (List.mem_of_getElem? (i := 12) rfl)) rfl, by decide +kernel⟩
theorem lc_X12_term : LkC yX12_term cX12_term 3 (some .int) 1 := ⟨gW_in _ (tb_9 _ (List.mem_of_getElem? (i := 22) rfl)) rfl, gW_in _ (tb_1 _ (List.mem_of_getElem? (i := 12) rfl)) rfl, by decide +kernel⟩
theorem lc_X12_testBy : LkC yX12_testBy cX12_testBy 4 (some .int) 3 := ⟨gW_in _ (tb_8 _ (List.mem_of_getElem? (i := 162) rfl)) rfl, gW_in _ (tb_1 _ (List.mem_of_getElem? (i := 12) rfl)) rfl, by decide +kernel⟩
theorem lc_X12_turn : LkC yX12_turn cX12_turn 2 none 0 := ⟨gW_in _ (tb_9 _ (List.mem_of_getElem? (i := 95) rfl)) rfl, gW_in _ (tb_1 _ (List.mem_of_getElem? (i := 12) rfl)) rfl, by decide +kernel⟩
theorem lc_X12_turns : LkC yX12_turns cX12_turns 4 (some .boolean) 3 := ⟨gW_in _ (tb_9 _ (List.mem_of_getElem? (i := 83) rfl)) rfl, gW_in _ (tb_1 _ (List.mem_of_getElem? (i := 12) rfl)) rfl, by decide +kernel⟩
theorem lc_X12_turnsOn : LkC yX12_turnsOn cX12_turnsOn 2 (some .boolean) 1 := ⟨gW_in _ (tb_9 _ (List.mem_of_getElem? (i := 30) rfl)) rfl, gW_in _ (tb_1 _ (List.mem_of_getElem? (i := 12) rfl)) rfl, by decide +kernel⟩
theorem lc_X12_unitNext : LkC yX12_unitNext cX12_unitNext 3 (some .int) 1 := ⟨gW_in _ (tb_8 _ (List.mem_of_getElem? (i := 222) rfl)) rfl, gW_in _ (tb_1 _ (List.mem_of_getElem? (i := 12) rfl)) rfl, by decide +kernel⟩
theorem lc_X12_wish : LkC yX12_wish cX12_wish 5 (some .int) 1 := ⟨gW_in _ (tb_9 _ (List.mem_of_getElem? (i := 72) rfl)) rfl, gW_in _ (tb_1 _ (List.mem_of_getElem? (i := 12) rfl)) rfl, by decide +kernel⟩
theorem lc_X12_wordOf : LkC yX12_wordOf cX12_wordOf 9 (some .int) 3 := ⟨gW_in _ (tb_8 _ (List.mem_of_getElem? (i := 71) rfl)) rfl, gW_in _ (tb_1 _ (List.mem_of_getElem? (i := 12) rfl)) rfl, by decide +kernel⟩
theorem lc_X12_wrong : LkC yX12_wrong cX12_wrong 3 none 2 := ⟨gW_in _ (tb_8 _ (List.mem_of_getElem? (i := 63) rfl)) rfl, gW_in _ (tb_1 _ (List.mem_of_getElem? (i := 12) rfl)) rfl, by decide +kernel⟩
theorem lc_X1_begin : LkC yX1_begin cX1_begin 1 none 0 := ⟨gW_in _ (tb_5 _ (List.mem_of_getElem? (i := 13) rfl)) rfl, gW_in _ (tb_1 _ (List.mem_of_getElem? (i := 9) rfl)) rfl, by decide +kernel⟩
theorem lc_X1_byteCount : LkC yX1_byteCount cX1_byteCount 1 (some .int) 0 := ⟨gW_in _ (tb_2 _ (List.mem_of_getElem? (i := 235) rfl)) rfl, gW_in _ (tb_1 _ (List.mem_of_getElem? (i := 9) rfl)) rfl, by decide +kernel⟩
theorem lc_X1_latest : LkC yX1_latest cX1_latest 2 (some .int) 1 := ⟨gW_in _ (tb_2 _ (List.mem_of_getElem? (i := 188) rfl)) rfl, gW_in _ (tb_1 _ (List.mem_of_getElem? (i := 9) rfl)) rfl, by decide +kernel⟩
theorem lc_X1_send : LkC yX1_send cX1_send 2 none 1 := ⟨gW_in _ (tb_6 _ (List.mem_of_getElem? (i := 159) rfl)) rfl, gW_in _ (tb_1 _ (List.mem_of_getElem? (i := 9) rfl)) rfl, by decide +kernel⟩
theorem lc_X2_charge : LkC yX2_charge cX2_charge 5 (some .int) 0 := ⟨gW_in _ (tb_6 _ (List.mem_of_getElem? (i := 138) rfl)) rfl, gW_in _ (tb_1 _ (List.mem_of_getElem? (i := 6) rfl)) rfl, by decide +kernel⟩
theorem lc_X2_checkOf : LkC yX2_checkOf cX2_checkOf 5 (some .int) 1 := ⟨gW_in _ (tb_6 _ (List.mem_of_getElem? (i := 150) rfl)) rfl, gW_in _ (tb_1 _ (List.mem_of_getElem? (i := 6) rfl)) rfl, by decide +kernel⟩
theorem lc_X2_countWith : LkC yX2_countWith cX2_countWith 5 (some .int) 2 := ⟨gW_in _ (tb_6 _ (List.mem_of_getElem? (i := 142) rfl)) rfl, gW_in _ (tb_1 _ (List.mem_of_getElem? (i := 6) rfl)) rfl, by decide +kernel⟩
theorem lc_X2_downlink : LkC yX2_downlink cX2_downlink 1 (some (.object "SmallCraft$Downlink")) 0 := ⟨gW_in _ (tb_2 _ (List.mem_of_getElem? (i := 184) rfl)) rfl, gW_in _ (tb_1 _ (List.mem_of_getElem? (i := 6) rfl)) rfl, by decide +kernel⟩
theorem lc_X2_fillFrame : LkC yX2_fillFrame cX2_fillFrame 2 none 1 := ⟨gW_in _ (tb_6 _ (List.mem_of_getElem? (i := 134) rfl)) rfl, gW_in _ (tb_1 _ (List.mem_of_getElem? (i := 6) rfl)) rfl, by decide +kernel⟩
theorem lc_X2_gauge : LkC yX2_gauge cX2_gauge 2 (some .int) 1 := ⟨gW_in _ (tb_3 _ (List.mem_of_getElem? (i := 23) rfl)) rfl, gW_in _ (tb_1 _ (List.mem_of_getElem? (i := 6) rfl)) rfl, by decide +kernel⟩
theorem lc_X2_isDue : LkC yX2_isDue cX2_isDue 3 (some .boolean) 2 := ⟨gW_in _ (tb_5 _ (List.mem_of_getElem? (i := 143) rfl)) rfl, gW_in _ (tb_1 _ (List.mem_of_getElem? (i := 6) rfl)) rfl, by decide +kernel⟩
theorem lc_X2_keepPicture : LkC yX2_keepPicture cX2_keepPicture 4 none 2 := ⟨gW_in _ (tb_5 _ (List.mem_of_getElem? (i := 217) rfl)) rfl, gW_in _ (tb_1 _ (List.mem_of_getElem? (i := 6) rfl)) rfl, by decide +kernel⟩
theorem lc_X2_perform : LkC yX2_perform cX2_perform 5 (some .boolean) 3 := ⟨gW_in _ (tb_5 _ (List.mem_of_getElem? (i := 170) rfl)) rfl, gW_in _ (tb_1 _ (List.mem_of_getElem? (i := 6) rfl)) rfl, by decide +kernel⟩
theorem lc_X2_planned : LkC yX2_planned cX2_planned 1 (some (.object "SmallCraft$Plan")) 0 := ⟨gW_in _ (tb_2 _ (List.mem_of_getElem? (i := 199) rfl)) rfl, gW_in _ (tb_1 _ (List.mem_of_getElem? (i := 6) rfl)) rfl, by decide +kernel⟩
theorem lc_X2_sendKept : LkC yX2_sendKept cX2_sendKept 5 (some .int) 1 := ⟨gW_in _ (tb_6 _ (List.mem_of_getElem? (i := 163) rfl)) rfl, gW_in _ (tb_1 _ (List.mem_of_getElem? (i := 6) rfl)) rfl, by decide +kernel⟩
theorem lc_X2_steering : LkC yX2_steering cX2_steering 1 (some (.object "SmallCraft$Steering")) 0 := ⟨gW_in _ (tb_3 _ (List.mem_of_getElem? (i := 3) rfl)) rfl, gW_in _ (tb_1 _ (List.mem_of_getElem? (i := 6) rfl)) rfl, by decide +kernel⟩
theorem lc_X2_switchOff : LkC yX2_switchOff cX2_switchOff 1 (some .boolean) 1 := ⟨gW_in _ (tb_5 _ (List.mem_of_getElem? (i := 180) rfl)) rfl, gW_in _ (tb_1 _ (List.mem_of_getElem? (i := 6) rfl)) rfl, by decide +kernel⟩
theorem lc_X2_switchOn : LkC yX2_switchOn cX2_switchOn 1 (some .boolean) 1 := ⟨gW_in _ (tb_5 _ (List.mem_of_getElem? (i := 173) rfl)) rfl, gW_in _ (tb_1 _ (List.mem_of_getElem? (i := 6) rfl)) rfl, by decide +kernel⟩
theorem lc_X2_takeReading : LkC yX2_takeReading cX2_takeReading 5 none 2 := ⟨gW_in _ (tb_5 _ (List.mem_of_getElem? (i := 208) rfl)) rfl, gW_in _ (tb_1 _ (List.mem_of_getElem? (i := 6) rfl)) rfl, by decide +kernel⟩
theorem lc_X2_valueOf : LkC yX2_valueOf cX2_valueOf 2 (some .int) 1 := ⟨gW_in _ (tb_5 _ (List.mem_of_getElem? (i := 151) rfl)) rfl, gW_in _ (tb_1 _ (List.mem_of_getElem? (i := 6) rfl)) rfl, by decide +kernel⟩
theorem lc_X3_hasCome : LkC yX3_hasCome cX3_hasCome 4 (some .boolean) 1 := ⟨gW_in _ (tb_5 _ (List.mem_of_getElem? (i := 158) rfl)) rfl, gW_in _ (tb_1 _ (List.mem_of_getElem? (i := 11) rfl)) rfl, by decide +kernel⟩
theorem lc_X3_isDueAt : LkC yX3_isDueAt cX3_isDueAt 2 (some .boolean) 1 := ⟨gW_in _ (tb_5 _ (List.mem_of_getElem? (i := 162) rfl)) rfl, gW_in _ (tb_1 _ (List.mem_of_getElem? (i := 11) rfl)) rfl, by decide +kernel⟩
theorem lc_X3_isWatch : LkC yX3_isWatch cX3_isWatch 1 (some .boolean) 0 := ⟨gW_in _ (tb_5 _ (List.mem_of_getElem? (i := 147) rfl)) rfl, gW_in _ (tb_1 _ (List.mem_of_getElem? (i := 11) rfl)) rfl, by decide +kernel⟩
theorem lc_X5_clear : LkC yX5_clear cX5_clear 1 none 0 := ⟨gW_in _ (tb_5 _ (List.mem_of_getElem? (i := 17) rfl)) rfl, gW_in _ (tb_1 _ (List.mem_of_getElem? (i := 10) rfl)) rfl, by decide +kernel⟩
theorem lc_X5_itemAt : LkC yX5_itemAt cX5_itemAt 2 (some (.object "SmallCraft$Item")) 1 := ⟨gW_in _ (tb_2 _ (List.mem_of_getElem? (i := 207) rfl)) rfl, gW_in _ (tb_1 _ (List.mem_of_getElem? (i := 10) rfl)) rfl, by decide +kernel⟩
theorem lc_X5_size : LkC yX5_size cX5_size 1 (some .int) 0 := ⟨gW_in _ (tb_2 _ (List.mem_of_getElem? (i := 203) rfl)) rfl, gW_in _ (tb_1 _ (List.mem_of_getElem? (i := 10) rfl)) rfl, by decide +kernel⟩
theorem lc_X5_stop : LkC yX5_stop cX5_stop 2 none 1 := ⟨gW_in _ (tb_5 _ (List.mem_of_getElem? (i := 193) rfl)) rfl, gW_in _ (tb_1 _ (List.mem_of_getElem? (i := 10) rfl)) rfl, by decide +kernel⟩
theorem lc_X6_addHeat : LkC yX6_addHeat cX6_addHeat 3 none 2 := ⟨gW_in _ (tb_6 _ (List.mem_of_getElem? (i := 117) rfl)) rfl, gW_in _ (tb_1 _ (List.mem_of_getElem? (i := 8) rfl)) rfl, by decide +kernel⟩
theorem lc_X6_begin : LkC yX6_begin cX6_begin 1 none 0 := ⟨gW_in _ (tb_5 _ (List.mem_of_getElem? (i := 9) rfl)) rfl, gW_in _ (tb_1 _ (List.mem_of_getElem? (i := 8) rfl)) rfl, by decide +kernel⟩
theorem lc_X6_breakUnits : LkC yX6_breakUnits cX6_breakUnits 3 none 0 := ⟨gW_in _ (tb_6 _ (List.mem_of_getElem? (i := 121) rfl)) rfl, gW_in _ (tb_1 _ (List.mem_of_getElem? (i := 8) rfl)) rfl, by decide +kernel⟩
theorem lc_X6_brownoutCount : LkC yX6_brownoutCount cX6_brownoutCount 1 (some .int) 0 := ⟨gW_in _ (tb_3 _ (List.mem_of_getElem? (i := 27) rfl)) rfl, gW_in _ (tb_1 _ (List.mem_of_getElem? (i := 8) rfl)) rfl, by decide +kernel⟩
theorem lc_X6_demandNow : LkC yX6_demandNow cX6_demandNow 1 (some .int) 0 := ⟨gW_in _ (tb_3 _ (List.mem_of_getElem? (i := 39) rfl)) rfl, gW_in _ (tb_1 _ (List.mem_of_getElem? (i := 8) rfl)) rfl, by decide +kernel⟩
theorem lc_X6_failureCount : LkC yX6_failureCount cX6_failureCount 1 (some .int) 0 := ⟨gW_in _ (tb_3 _ (List.mem_of_getElem? (i := 31) rfl)) rfl, gW_in _ (tb_1 _ (List.mem_of_getElem? (i := 8) rfl)) rfl, by decide +kernel⟩
theorem lc_X6_fromNeighbour : LkC yX6_fromNeighbour cX6_fromNeighbour 3 (some .int) 2 := ⟨gW_in _ (tb_6 _ (List.mem_of_getElem? (i := 108) rfl)) rfl, gW_in _ (tb_1 _ (List.mem_of_getElem? (i := 8) rfl)) rfl, by decide +kernel⟩
theorem lc_X6_heatAlone : LkC yX6_heatAlone cX6_heatAlone 9 (some .int) 2 := ⟨gW_in _ (tb_6 _ (List.mem_of_getElem? (i := 103) rfl)) rfl, gW_in _ (tb_1 _ (List.mem_of_getElem? (i := 8) rfl)) rfl, by decide +kernel⟩
theorem lc_X6_leadHeat : LkC yX6_leadHeat cX6_leadHeat 5 none 1 := ⟨gW_in _ (tb_6 _ (List.mem_of_getElem? (i := 113) rfl)) rfl, gW_in _ (tb_1 _ (List.mem_of_getElem? (i := 8) rfl)) rfl, by decide +kernel⟩
theorem lc_X6_pour : LkC yX6_pour cX6_pour 7 none 3 := ⟨gW_in _ (tb_6 _ (List.mem_of_getElem? (i := 95) rfl)) rfl, gW_in _ (tb_1 _ (List.mem_of_getElem? (i := 8) rfl)) rfl, by decide +kernel⟩
theorem lc_X6_supplyNow : LkC yX6_supplyNow cX6_supplyNow 1 (some .int) 0 := ⟨gW_in _ (tb_3 _ (List.mem_of_getElem? (i := 35) rfl)) rfl, gW_in _ (tb_1 _ (List.mem_of_getElem? (i := 8) rfl)) rfl, by decide +kernel⟩
theorem lc_X6_switchThermos : LkC yX6_switchThermos cX6_switchThermos 4 none 0 := ⟨gW_in _ (tb_6 _ (List.mem_of_getElem? (i := 126) rfl)) rfl, gW_in _ (tb_1 _ (List.mem_of_getElem? (i := 8) rfl)) rfl, by decide +kernel⟩
theorem lc_X7_aim : LkC yX7_aim cX7_aim 2 (some .int) 1 := ⟨gW_in _ (tb_3 _ (List.mem_of_getElem? (i := 19) rfl)) rfl, gW_in _ (tb_1 _ (List.mem_of_getElem? (i := 7) rfl)) rfl, by decide +kernel⟩
theorem lc_X7_angle : LkC yX7_angle cX7_angle 2 (some .int) 1 := ⟨gW_in _ (tb_3 _ (List.mem_of_getElem? (i := 11) rfl)) rfl, gW_in _ (tb_1 _ (List.mem_of_getElem? (i := 7) rfl)) rfl, by decide +kernel⟩
theorem lc_X7_begin : LkC yX7_begin cX7_begin 2 none 0 := ⟨gW_in _ (tb_5 _ (List.mem_of_getElem? (i := 5) rfl)) rfl, gW_in _ (tb_1 _ (List.mem_of_getElem? (i := 7) rfl)) rfl, by decide +kernel⟩
theorem lc_X7_driveCoils : LkC yX7_driveCoils cX7_driveCoils 7 none 2 := ⟨gW_in _ (tb_6 _ (List.mem_of_getElem? (i := 26) rfl)) rfl, gW_in _ (tb_1 _ (List.mem_of_getElem? (i := 7) rfl)) rfl, by decide +kernel⟩
theorem lc_X7_error : LkC yX7_error cX7_error 3 (some .int) 2 := ⟨gW_in _ (tb_5 _ (List.mem_of_getElem? (i := 238) rfl)) rfl, gW_in _ (tb_1 _ (List.mem_of_getElem? (i := 7) rfl)) rfl, by decide +kernel⟩
theorem lc_X7_hasGas : LkC yX7_hasGas cX7_hasGas 3 (some .boolean) 1 := ⟨gW_in _ (tb_6 _ (List.mem_of_getElem? (i := 39) rfl)) rfl, gW_in _ (tb_1 _ (List.mem_of_getElem? (i := 7) rfl)) rfl, by decide +kernel⟩
theorem lc_X7_measuredRate : LkC yX7_measuredRate cX7_measuredRate 4 (some .int) 1 := ⟨gW_in _ (tb_6 _ (List.mem_of_getElem? (i := 10) rfl)) rfl, gW_in _ (tb_1 _ (List.mem_of_getElem? (i := 7) rfl)) rfl, by decide +kernel⟩
theorem lc_X7_rate : LkC yX7_rate cX7_rate 2 (some .int) 1 := ⟨gW_in _ (tb_3 _ (List.mem_of_getElem? (i := 15) rfl)) rfl, gW_in _ (tb_1 _ (List.mem_of_getElem? (i := 7) rfl)) rfl, by decide +kernel⟩
theorem lc_X7_readyJet : LkC yX7_readyJet cX7_readyJet 5 (some .int) 2 := ⟨gW_in _ (tb_6 _ (List.mem_of_getElem? (i := 35) rfl)) rfl, gW_in _ (tb_1 _ (List.mem_of_getElem? (i := 7) rfl)) rfl, by decide +kernel⟩
theorem lc_X7_setAim : LkC yX7_setAim cX7_setAim 3 none 2 := ⟨gW_in _ (tb_5 _ (List.mem_of_getElem? (i := 185) rfl)) rfl, gW_in _ (tb_1 _ (List.mem_of_getElem? (i := 7) rfl)) rfl, by decide +kernel⟩
theorem lc_X7_speedUp : LkC yX7_speedUp cX7_speedUp 3 none 2 := ⟨gW_in _ (tb_6 _ (List.mem_of_getElem? (i := 21) rfl)) rfl, gW_in _ (tb_1 _ (List.mem_of_getElem? (i := 7) rfl)) rfl, by decide +kernel⟩
theorem lc_X7_spinWheels : LkC yX7_spinWheels cX7_spinWheels 10 (some .int) 2 := ⟨gW_in _ (tb_6 _ (List.mem_of_getElem? (i := 17) rfl)) rfl, gW_in _ (tb_1 _ (List.mem_of_getElem? (i := 7) rfl)) rfl, by decide +kernel⟩
theorem lc_X7_sunError : LkC yX7_sunError cX7_sunError 3 (some .int) 0 := ⟨gW_in _ (tb_6 _ (List.mem_of_getElem? (i := 3) rfl)) rfl, gW_in _ (tb_1 _ (List.mem_of_getElem? (i := 7) rfl)) rfl, by decide +kernel⟩
theorem lc_X7_unload : LkC yX7_unload cX7_unload 5 none 2 := ⟨gW_in _ (tb_6 _ (List.mem_of_getElem? (i := 45) rfl)) rfl, gW_in _ (tb_1 _ (List.mem_of_getElem? (i := 7) rfl)) rfl, by decide +kernel⟩
theorem lc_X7_unloadWheels : LkC yX7_unloadWheels cX7_unloadWheels 7 none 2 := ⟨gW_in _ (tb_6 _ (List.mem_of_getElem? (i := 30) rfl)) rfl, gW_in _ (tb_1 _ (List.mem_of_getElem? (i := 7) rfl)) rfl, by decide +kernel⟩
theorem lc_X7_value : LkC yX7_value cX7_value 2 (some .int) 1 := ⟨gW_in _ (tb_3 _ (List.mem_of_getElem? (i := 7) rfl)) rfl, gW_in _ (tb_1 _ (List.mem_of_getElem? (i := 7) rfl)) rfl, by decide +kernel⟩
theorem lc_X8_append : LkC yX8_append cX8_append 3 none 1 := ⟨gW_in _ (tb_2 _ (List.mem_of_getElem? (i := 144) rfl)) rfl, gW_in _ (tb_1 _ (List.mem_of_getElem? (i := 4) rfl)) rfl, by decide +kernel⟩
theorem lc_X8_byteAt : LkC yX8_byteAt cX8_byteAt 2 (some .int) 1 := ⟨gW_in _ (tb_3 _ (List.mem_of_getElem? (i := 132) rfl)) rfl, gW_in _ (tb_1 _ (List.mem_of_getElem? (i := 4) rfl)) rfl, by decide +kernel⟩
theorem lc_X8_faultCode : LkC yX8_faultCode cX8_faultCode 1 (some .int) 0 := ⟨gW_in _ (tb_2 _ (List.mem_of_getElem? (i := 156) rfl)) rfl, gW_in _ (tb_1 _ (List.mem_of_getElem? (i := 4) rfl)) rfl, by decide +kernel⟩
theorem lc_X8_faultPlace : LkC yX8_faultPlace cX8_faultPlace 1 (some .int) 0 := ⟨gW_in _ (tb_2 _ (List.mem_of_getElem? (i := 160) rfl)) rfl, gW_in _ (tb_1 _ (List.mem_of_getElem? (i := 4) rfl)) rfl, by decide +kernel⟩
theorem lc_X8_hasPlaceFor : LkC yX8_hasPlaceFor cX8_hasPlaceFor 2 (some .boolean) 1 := ⟨gW_in _ (tb_2 _ (List.mem_of_getElem? (i := 140) rfl)) rfl, gW_in _ (tb_1 _ (List.mem_of_getElem? (i := 4) rfl)) rfl, by decide +kernel⟩
theorem lc_X8_isAnyWord : LkC yX8_isAnyWord cX8_isAnyWord 1 (some .boolean) 0 := ⟨gW_in _ (tb_3 _ (List.mem_of_getElem? (i := 235) rfl)) rfl, gW_in _ (tb_1 _ (List.mem_of_getElem? (i := 4) rfl)) rfl, by decide +kernel⟩
theorem lc_X8_isBlank : LkC yX8_isBlank cX8_isBlank 1 (some .boolean) 1 := ⟨gW_in _ (tb_3 _ (List.mem_of_getElem? (i := 135) rfl)) rfl, gW_in _ (tb_1 _ (List.mem_of_getElem? (i := 4) rfl)) rfl, by decide +kernel⟩
theorem lc_X8_isDigit : LkC yX8_isDigit cX8_isDigit 1 (some .boolean) 1 := ⟨gW_in _ (tb_3 _ (List.mem_of_getElem? (i := 152) rfl)) rfl, gW_in _ (tb_1 _ (List.mem_of_getElem? (i := 4) rfl)) rfl, by decide +kernel⟩
theorem lc_X8_isLetter : LkC yX8_isLetter cX8_isLetter 1 (some .boolean) 1 := ⟨gW_in _ (tb_3 _ (List.mem_of_getElem? (i := 138) rfl)) rfl, gW_in _ (tb_1 _ (List.mem_of_getElem? (i := 4) rfl)) rfl, by decide +kernel⟩
theorem lc_X8_isLetterOrDigit : LkC yX8_isLetterOrDigit cX8_isLetterOrDigit 1 (some .boolean) 1 := ⟨gW_in _ (tb_3 _ (List.mem_of_getElem? (i := 145) rfl)) rfl, gW_in _ (tb_1 _ (List.mem_of_getElem? (i := 4) rfl)) rfl, by decide +kernel⟩
theorem lc_X8_isSign : LkC yX8_isSign cX8_isSign 2 (some .boolean) 1 := ⟨gW_in _ (tb_4 _ (List.mem_of_getElem? (i := 38) rfl)) rfl, gW_in _ (tb_1 _ (List.mem_of_getElem? (i := 4) rfl)) rfl, by decide +kernel⟩
theorem lc_X8_next : LkC yX8_next cX8_next 2 none 0 := ⟨gW_in _ (tb_3 _ (List.mem_of_getElem? (i := 128) rfl)) rfl, gW_in _ (tb_1 _ (List.mem_of_getElem? (i := 4) rfl)) rfl, by decide +kernel⟩
theorem lc_X8_number : LkC yX8_number cX8_number 1 (some .int) 0 := ⟨gW_in _ (tb_4 _ (List.mem_of_getElem? (i := 21) rfl)) rfl, gW_in _ (tb_1 _ (List.mem_of_getElem? (i := 4) rfl)) rfl, by decide +kernel⟩
theorem lc_X8_readNumber : LkC yX8_readNumber cX8_readNumber 3 none 0 := ⟨gW_in _ (tb_3 _ (List.mem_of_getElem? (i := 156) rfl)) rfl, gW_in _ (tb_1 _ (List.mem_of_getElem? (i := 4) rfl)) rfl, by decide +kernel⟩
theorem lc_X8_readWord : LkC yX8_readWord cX8_readWord 2 none 0 := ⟨gW_in _ (tb_3 _ (List.mem_of_getElem? (i := 142) rfl)) rfl, gW_in _ (tb_1 _ (List.mem_of_getElem? (i := 4) rfl)) rfl, by decide +kernel⟩
theorem lc_X8_refuse : LkC yX8_refuse cX8_refuse 2 (some .boolean) 1 := ⟨gW_in _ (tb_3 _ (List.mem_of_getElem? (i := 231) rfl)) rfl, gW_in _ (tb_1 _ (List.mem_of_getElem? (i := 4) rfl)) rfl, by decide +kernel⟩
theorem lc_X8_size : LkC yX8_size cX8_size 1 (some .int) 0 := ⟨gW_in _ (tb_2 _ (List.mem_of_getElem? (i := 148) rfl)) rfl, gW_in _ (tb_1 _ (List.mem_of_getElem? (i := 4) rfl)) rfl, by decide +kernel⟩
theorem lc_X8_spoil : LkC yX8_spoil cX8_spoil 1 none 0 := ⟨gW_in _ (tb_3 _ (List.mem_of_getElem? (i := 149) rfl)) rfl, gW_in _ (tb_1 _ (List.mem_of_getElem? (i := 4) rfl)) rfl, by decide +kernel⟩
theorem lc_X8_takeNumber : LkC yX8_takeNumber cX8_takeNumber 1 (some .boolean) 0 := ⟨gW_in _ (tb_4 _ (List.mem_of_getElem? (i := 15) rfl)) rfl, gW_in _ (tb_1 _ (List.mem_of_getElem? (i := 4) rfl)) rfl, by decide +kernel⟩
theorem lc_X8_wordRead : LkC yX8_wordRead cX8_wordRead 1 (some .long) 0 := ⟨gW_in _ (tb_3 _ (List.mem_of_getElem? (i := 239) rfl)) rfl, gW_in _ (tb_1 _ (List.mem_of_getElem? (i := 4) rfl)) rfl, by decide +kernel⟩
theorem lc_X9_channels : LkC yX9_channels cX9_channels 3 (some .int) 0 := ⟨gW_in _ (tb_4 _ (List.mem_of_getElem? (i := 152) rfl)) rfl, gW_in _ (tb_1 _ (List.mem_of_getElem? (i := 3) rfl)) rfl, by decide +kernel⟩
theorem lc_X9_clear : LkC yX9_clear cX9_clear 3 none 1 := ⟨gW_in _ (tb_4 _ (List.mem_of_getElem? (i := 81) rfl)) rfl, gW_in _ (tb_1 _ (List.mem_of_getElem? (i := 3) rfl)) rfl, by decide +kernel⟩
theorem lc_X9_dropFirst : LkC yX9_dropFirst cX9_dropFirst 1 none 0 := ⟨gW_in _ (tb_6 _ (List.mem_of_getElem? (i := 171) rfl)) rfl, gW_in _ (tb_1 _ (List.mem_of_getElem? (i := 3) rfl)) rfl, by decide +kernel⟩
theorem lc_X9_hasRoomFor : LkC yX9_hasRoomFor cX9_hasRoomFor 2 (some .boolean) 1 := ⟨gW_in _ (tb_5 _ (List.mem_of_getElem? (i := 221) rfl)) rfl, gW_in _ (tb_1 _ (List.mem_of_getElem? (i := 3) rfl)) rfl, by decide +kernel⟩
theorem lc_X9_is : LkC yX9_is cX9_is 2 (some .boolean) 1 := ⟨gW_in _ (tb_4 _ (List.mem_of_getElem? (i := 73) rfl)) rfl, gW_in _ (tb_1 _ (List.mem_of_getElem? (i := 3) rfl)) rfl, by decide +kernel⟩
theorem lc_X9_isOn : LkC yX9_isOn cX9_isOn 2 (some .boolean) 1 := ⟨gW_in _ (tb_5 _ (List.mem_of_getElem? (i := 203) rfl)) rfl, gW_in _ (tb_1 _ (List.mem_of_getElem? (i := 3) rfl)) rfl, by decide +kernel⟩
theorem lc_X9_isWhole : LkC yX9_isWhole cX9_isWhole 2 (some .boolean) 1 := ⟨gW_in _ (tb_5 _ (List.mem_of_getElem? (i := 177) rfl)) rfl, gW_in _ (tb_1 _ (List.mem_of_getElem? (i := 3) rfl)) rfl, by decide +kernel⟩
theorem lc_X9_keepByte : LkC yX9_keepByte cX9_keepByte 2 none 1 := ⟨gW_in _ (tb_5 _ (List.mem_of_getElem? (i := 225) rfl)) rfl, gW_in _ (tb_1 _ (List.mem_of_getElem? (i := 3) rfl)) rfl, by decide +kernel⟩
theorem lc_X9_keptByte : LkC yX9_keptByte cX9_keptByte 2 (some .int) 1 := ⟨gW_in _ (tb_6 _ (List.mem_of_getElem? (i := 167) rfl)) rfl, gW_in _ (tb_1 _ (List.mem_of_getElem? (i := 3) rfl)) rfl, by decide +kernel⟩
theorem lc_X9_mass : LkC yX9_mass cX9_mass 3 (some .int) 0 := ⟨gW_in _ (tb_4 _ (List.mem_of_getElem? (i := 93) rfl)) rfl, gW_in _ (tb_1 _ (List.mem_of_getElem? (i := 3) rfl)) rfl, by decide +kernel⟩
theorem lc_X9_need : LkC yX9_need cX9_need 3 (some .int) 0 := ⟨gW_in _ (tb_4 _ (List.mem_of_getElem? (i := 120) rfl)) rfl, gW_in _ (tb_1 _ (List.mem_of_getElem? (i := 3) rfl)) rfl, by decide +kernel⟩
theorem lc_X9_push : LkC yX9_push cX9_push 3 (some .int) 0 := ⟨gW_in _ (tb_4 _ (List.mem_of_getElem? (i := 180) rfl)) rfl, gW_in _ (tb_1 _ (List.mem_of_getElem? (i := 3) rfl)) rfl, by decide +kernel⟩
theorem lc_X9_span : LkC yX9_span cX9_span 3 (some .int) 0 := ⟨gW_in _ (tb_4 _ (List.mem_of_getElem? (i := 97) rfl)) rfl, gW_in _ (tb_1 _ (List.mem_of_getElem? (i := 3) rfl)) rfl, by decide +kernel⟩
theorem lc_X9_test : LkC yX9_test cX9_test 3 (some .int) 0 := ⟨gW_in _ (tb_4 _ (List.mem_of_getElem? (i := 104) rfl)) rfl, gW_in _ (tb_1 _ (List.mem_of_getElem? (i := 3) rfl)) rfl, by decide +kernel⟩
theorem lc_X9_value : LkC yX9_value cX9_value 2 (some .int) 1 := ⟨gW_in _ (tb_6 _ (List.mem_of_getElem? (i := 146) rfl)) rfl, gW_in _ (tb_1 _ (List.mem_of_getElem? (i := 3) rfl)) rfl, by decide +kernel⟩
