/-! One call of class and reference over one memory: c := I, m := the memory behind the class's call -/
theorem Mt_co {ob : Nat → Nat → Prop} {pb o p a b : Nat} (h : Mt ob pb o p a b) : CO o ∧ ¬ CO a := by
  unfold CO
  rcases h with ⟨u, h⟩ | ⟨h0, h⟩ | h | h | h | h
  all_goals first
    | omega
    | (have e := (scT_in _ h).1; simp only at e; omega)
section LAW1
variable {N n : Nat} {cd : Nat → Nat} {pb : Nat} {L L' : ML} {t s0 B D : Nat} {c m c' m' I : MI}
theorem RC.mv (h : RC n cd pb L t s0 B D c m) (hc : ∀ o p, CO o → c' o p = c o p) (hm : ∀ o p, ¬ CO o → m' o p = m o p) : RC n cd pb L t s0 B D c' m' := by
  refine h.of ?_ ?_ ?_
  · intro o p a b hM hg
    obtain ⟨h1, h2⟩ := Mt_co hM
    rw [hc o p h1, hm a b h2]
    exact h.1 o p a b hM (fun q => by
      have := hg q
      rw [hm 24 54 (by unfold CO; omega)] at this
      exact this)
  · intro o p q
    exact hc o p (by unfold stc dyc at q; unfold CO; omega)
  · intro o p q
    exact hm o p (by unfold stm dym at q; unfold CO; omega)
theorem RC.lw {v : Int64} (h : RC n cd pb L t s0 B D c m) : RC n cd pb (uL L 57 0 v) t s0 B D c m := h.Lc (fun u _ => by rw [uL_ne (by unfold U; omega)])
theorem DN.lw {v : Int64} (h : DN n L) : DN n (uL L 57 0 v) := fun u w h1 h2 => by
  rw [uL_ne (by unfold U; omega), uL_ne (by unfold U; omega)]
  exact h u w h1 h2
/-- the reference's own memory, then both -/
theorem RC.both (h : RC n cd pb L t s0 B D c m) (hf : Fr KR c m) : RC n cd pb L t s0 B D m m := h.mv (fun o p q => hf o p (by unfold KR; unfold CO at q; omega)) (fun _ _ _ => rfl)
theorem RC.cls (h : RC n cd pb L t s0 B D I I) (hf : Fr KC I c) : RC n cd pb L t s0 B D I c := h.mv (fun _ _ _ => rfl) (fun o p q => hf o p q)
theorem frR {α : Type} {x : Option α} {y : α} {Φ : α → Prop} (h : Pre x Φ) (e : x = some y) : Φ y := h _ e
theorem fr0 {K : Nat → Nat → Prop} {I : MI} : Fr K I I := fun _ _ _ => rfl
theorem st_feed (hN : 5000 ≤ N) (a1 a2 a3 a4 a5 : Int32) (h : RC n cd pb L t s0 B D I I) : ∃ r I1 I2, F_X11_feed N 0 a1 a2 a3 a4 a5 I L (GRf pb) = some (r, I1) ∧ F_X12_feed N 24 a1 a2 a3 a4 a5 I1 L (GRf pb) = some (r, I2) ∧ RC n cd pb L t s0 B D I2 I2 := by
  obtain ⟨r, c', m', e1, -, -⟩ := feed_ok (N := N) a1 a2 a3 a4 a5 hN h
  have hc : Fr KC I c' := (fr_F_X11_feed h.pb1 0 a1 a2 a3 a4 a5 I (by unfold CO; omega) fr0) _ e1
  obtain ⟨r2, c2, m2, g1, g2, g3⟩ := feed_ok (N := N) a1 a2 a3 a4 a5 hN (h.cls hc)
  cases e1.symm.trans g1
  exact ⟨r, c', m2, e1, g2, g3.both ((fr_F_X12_feed a1 a2 a3 a4 a5 c' fr0) _ g2)⟩
theorem st_load (hN : 5000 ≤ N) (x : Int32) (h : RC n cd pb L t s0 B D I I) (hdn : DN n L) :
    (∃ v I1 L1 I2 n' cd' t' s', F_X11_load N 0 x I L (GRf pb) = some (.inr (v, I1, L1)) ∧ F_X12_load N 24 x I1 (uL L1 57 0 v.toInt64) (GRf pb) = some (v, I2) ∧ I2 24 5 = 0 ∧ t' ≤ t ∧ RC n' cd' pb (uL L1 57 0 v.toInt64) t' s' B D I2 I2 ∧ DN n' (uL L1 57 0 v.toInt64)) ∨
    (∃ v I2, F_X11_load N 0 x I L (GRf pb) = some (.inl "java/lang/IllegalArgumentException") ∧ F_X12_load N 24 x I L (GRf pb) = some (v, I2) ∧ I2 24 5 = 1 ∧ RC n cd pb L t s0 B D I2 I2) := by
  rcases load_ok (N := N) (Lr := L) hN x h hdn with ⟨v, c', L1, m', n', cd', t', s', e1, -⟩ | ⟨v, m', e1, e2, e3, e4⟩
  · have hc : Fr KC I c' := (fr_F_X11_load h.pb1 0 x I (by unfold CO; omega) fr0) _ e1
    rcases load_ok (N := N) (Lr := uL L1 57 0 v.toInt64) hN x (h.cls hc) hdn with ⟨v2, c2, L2, m2, n2, cd2, t2, s2, g1, g2, g3, g4, g5, g6⟩ | ⟨v2, m2, g1, -⟩
    · cases e1.symm.trans g1
      exact Or.inl ⟨v, c', L1, m2, n2, cd2, t2, s2, e1, g2, g3, g4, (g5.both ((fr_F_X12_load x c' fr0) _ g2)).lw, g6.lw⟩
    · cases e1.symm.trans g1
  · exact Or.inr ⟨v, m', e1, e2, e3, e4.both ((fr_F_X12_load x I fr0) _ e2)⟩
theorem st_plan (hN : 5000 ≤ N) (x : Int32) (h : RC n cd pb L t s0 B D I I) (hdn : DN n L) :
    (∃ v I1 L1 pb' I2, F_X11_plan N 0 x I L (GRf pb) = some (.inr (v, I1, L1, GRf pb')) ∧ F_X12_plan N 24 x I1 (uL L1 57 0 v.toInt64) (GRf pb') = some (v, I2) ∧ I2 24 5 = 0 ∧ RC n cd pb' (uL L1 57 0 v.toInt64) t s0 B D I2 I2 ∧ DN n (uL L1 57 0 v.toInt64)) ∨
    (∃ v I2, F_X11_plan N 0 x I L (GRf pb) = some (.inl "java/lang/IllegalArgumentException") ∧ F_X12_plan N 24 x I L (GRf pb) = some (v, I2) ∧ I2 24 5 = 1 ∧ RC n cd pb L t s0 B D I2 I2) := by
  rcases plan_ok (N := N) (Lr := L) hN x h hdn with ⟨v, c', L1, m', pb', e1, -⟩ | ⟨v, m', e1, e2, e3, e4⟩
  · have hc : Fr KC I c' := (fr_F_X11_plan h.pb1 0 x I (by unfold CO; omega) fr0) _ e1
    rcases plan_ok (N := N) (Lr := uL L1 57 0 v.toInt64) hN x (h.cls hc) hdn with ⟨v2, c2, L2, m2, pb2, g1, g2, g3, g4, g5⟩ | ⟨v2, m2, g1, -⟩
    · have e9 := Sum.inr.inj (Option.some.inj (e1.symm.trans g1))
      simp only [Prod.mk.injEq] at e9
      obtain ⟨rfl, rfl, rfl, e10⟩ := e9
      rw [e10] at e1
      exact Or.inl ⟨v, c', L1, pb2, m2, e1, g2, g3, (g4.both ((fr_F_X12_plan x c' fr0) _ g2)).lw, g5.lw⟩
    · cases e1.symm.trans g1
  · exact Or.inr ⟨v, m', e1, e2, e3, e4.both ((fr_F_X12_plan x I fr0) _ e2)⟩
theorem st_run (hN : 5000 ≤ N) (x : Int32) (ht : t + 1001 < 2 ^ 20) (hB : B + 21 * 1001 < 2 ^ 30) (hD : D + 820 * 1001 < 2 ^ 30) (h : RC n cd pb L t s0 B D I I) (hdn : DN n L) :
    (∃ v I1 I2 t' s', F_X11_run N 0 x I L (GRf pb) = some (.inr (v, I1)) ∧ F_X12_run N 24 x I1 (uL L 57 0 v.toInt64) (GRf pb) = some (v, I2) ∧ I2 24 5 = 0 ∧ t' ≤ t + 1000 ∧ RC n cd pb (uL L 57 0 v.toInt64) t' s' (B + 21 * 1000) (D + 820 * 1000) I2 I2 ∧ DN n (uL L 57 0 v.toInt64)) ∨
    (∃ E k v I2 t' s', F_X11_run N 0 x I L (GRf pb) = some (.inl E) ∧ (E, k) ∈ [("java/lang/IllegalStateException", (1 : Int32)), ("java/lang/IllegalArgumentException", 2)] ∧ F_X12_run N 24 x I L (GRf pb) = some (v, I2) ∧ I2 24 5 = k ∧ t' ≤ t + 1000 ∧ RC n cd pb L t' s' (B + 21 * 1000) (D + 820 * 1000) I2 I2) := by
  rcases run_ok (N := N) hN x ht hB hD h with ⟨v, c', m', e1, -⟩ | ⟨E, k, v, m', e1, e2, e3, e4, t', s', e5, e6⟩
  · have hc : Fr KC I c' := (fr_F_X11_run h.pb1 0 x I (by unfold CO; omega) fr0) _ e1
    rcases run_ok (N := N) hN x ht hB hD (h.cls hc) with ⟨v2, c2, m2, g1, g2, g3, t', s', g4, g5⟩ | ⟨E, k, v2, m2, g1, -⟩
    · cases e1.symm.trans g1
      rw [ll_F_X12_run L (uL L 57 0 v.toInt64)] at g2
      exact Or.inl ⟨v, c', m2, t', s', e1, g2, g3, g4, (g5.both ((fr_F_X12_run x c' fr0) _ g2)).lw, hdn.lw⟩
    · cases e1.symm.trans g1
  · exact Or.inr ⟨E, k, v, m', t', s', e1, e3, e2, e4, e5, e6.both ((fr_F_X12_run x I fr0) _ e2)⟩
theorem st_command (hN : 5000 ≤ N) (x a b : Int32) (h : RC n cd pb L t s0 B D I I) (hdn : DN n L) :
    (∃ v I1 I2, F_X11_command N 0 x a b I L (GRf pb) = some (.inr (v, I1)) ∧ F_X12_command N 24 x a b I1 (uL L 57 0 (b2l v)) (GRf pb) = some (v, I2) ∧ I2 24 5 = 0 ∧ RC n cd pb (uL L 57 0 (b2l v)) t s0 B D I2 I2 ∧ DN n (uL L 57 0 (b2l v))) ∨
    (∃ E k v I2, F_X11_command N 0 x a b I L (GRf pb) = some (.inl E) ∧ (E, k) ∈ [("java/lang/IllegalArgumentException", (1 : Int32))] ∧ F_X12_command N 24 x a b I L (GRf pb) = some (v, I2) ∧ I2 24 5 = k ∧ RC n cd pb L t s0 B D I2 I2) := by
  rcases command_ok (N := N) hN x a b h with ⟨v, c', m', e1, -⟩ | ⟨E, k, v, m', e1, e2, e3, e4, e6⟩
  · have hc : Fr KC I c' := (fr_F_X11_command h.pb1 0 x a b I (by unfold CO; omega) fr0) _ e1
    rcases command_ok (N := N) hN x a b (h.cls hc) with ⟨v2, c2, m2, g1, g2, g3, g5⟩ | ⟨E, k, v2, m2, g1, -⟩
    · cases e1.symm.trans g1
      rw [ll_F_X12_command L (uL L 57 0 (b2l v))] at g2
      exact Or.inl ⟨v, c', m2, e1, g2, g3, (g5.both ((fr_F_X12_command x a b c' fr0) _ g2)).lw, hdn.lw⟩
    · cases e1.symm.trans g1
  · exact Or.inr ⟨E, k, v, m', e1, e3, e2, e4, e6.both ((fr_F_X12_command x a b I fr0) _ e2)⟩
theorem st_part (hN : 5000 ≤ N) (x y : Int32) (h : RC n cd pb L t s0 B D I I) (hdn : DN n L) :
    (∃ v I2, F_X11_part 0 x y I L (GRf pb) = some (.inr v) ∧ F_X12_part N 24 x y I (uL L 57 0 v.toInt64) (GRf pb) = some (v, I2) ∧ I2 24 5 = 0 ∧ RC n cd pb (uL L 57 0 v.toInt64) t s0 B D I2 I2 ∧ DN n (uL L 57 0 v.toInt64)) ∨
    (∃ E k v I2, F_X11_part 0 x y I L (GRf pb) = some (.inl E) ∧ (E, k) ∈ [("java/lang/IndexOutOfBoundsException", (1 : Int32)), ("java/util/NoSuchElementException", 2)] ∧ F_X12_part N 24 x y I L (GRf pb) = some (v, I2) ∧ I2 24 5 = k ∧ RC n cd pb L t s0 B D I2 I2) := by
  rcases part_ok (N := N) hN x y h with ⟨v, m2, e1, g2, g3, g5⟩ | ⟨E, k, v, m2, e1, e2, e3, e4, e6⟩
  · have g9 := g2
    rw [ll_F_X12_part L (uL L 57 0 v.toInt64)] at g9
    exact Or.inl ⟨v, m2, e1, g9, g3, (g5.both ((fr_F_X12_part x y I fr0) _ g2)).lw, hdn.lw⟩
  · exact Or.inr ⟨E, k, v, m2, e1, e3, e2, e4, e6.both ((fr_F_X12_part x y I fr0) _ e2)⟩
theorem st_ask (hN : 5000 ≤ N) (x y : Int32) (h : RC n cd pb L t s0 B D I I) (hdn : DN n L) :
    (∃ v I2, F_X11_ask N 0 x y I L (GRf pb) = some (.inr v) ∧ F_X12_ask N 24 x y I (uL L 57 0 v.toInt64) (GRf pb) = some (v, I2) ∧ I2 24 5 = 0 ∧ RC n cd pb (uL L 57 0 v.toInt64) t s0 B D I2 I2 ∧ DN n (uL L 57 0 v.toInt64)) ∨
    (∃ E k v I2, F_X11_ask N 0 x y I L (GRf pb) = some (.inl E) ∧ (E, k) ∈ [("java/lang/IndexOutOfBoundsException", (1 : Int32)), ("java/util/NoSuchElementException", 2)] ∧ F_X12_ask N 24 x y I L (GRf pb) = some (v, I2) ∧ I2 24 5 = k ∧ RC n cd pb L t s0 B D I2 I2) := by
  rcases ask_ok (N := N) hN x y h with ⟨v, m2, e1, g2, g3, g5⟩ | ⟨E, k, v, m2, e1, e2, e3, e4, e6⟩
  · have g9 := g2
    rw [ll_F_X12_ask L (uL L 57 0 v.toInt64)] at g9
    exact Or.inl ⟨v, m2, e1, g9, g3, (g5.both ((fr_F_X12_ask x y I fr0) _ g2)).lw, hdn.lw⟩
  · exact Or.inr ⟨E, k, v, m2, e1, e3, e2, e4, e6.both ((fr_F_X12_ask x y I fr0) _ e2)⟩
theorem st_note (x y : Int32) (h : RC n cd pb L t s0 B D I I) (hdn : DN n L) :
    (∃ v I2, F_X11_note 0 x y I L (GRf pb) = some (.inr v) ∧ F_X12_note 24 x y I (uL L 57 0 v.toInt64) (GRf pb) = some (v, I2) ∧ I2 24 5 = 0 ∧ RC n cd pb (uL L 57 0 v.toInt64) t s0 B D I2 I2 ∧ DN n (uL L 57 0 v.toInt64)) ∨
    (∃ E k v I2, F_X11_note 0 x y I L (GRf pb) = some (.inl E) ∧ (E, k) ∈ [("java/util/NoSuchElementException", (1 : Int32))] ∧ F_X12_note 24 x y I L (GRf pb) = some (v, I2) ∧ I2 24 5 = k ∧ RC n cd pb L t s0 B D I2 I2) := by
  rcases note_ok x y h with ⟨v, m2, e1, g2, g3, g5⟩ | ⟨E, k, v, m2, e1, e2, e3, e4, e6⟩
  · have g9 := g2
    rw [ll_F_X12_note L (uL L 57 0 v.toInt64)] at g9
    exact Or.inl ⟨v, m2, e1, g9, g3, (g5.both ((fr_F_X12_note x y I fr0) _ g2)).lw, hdn.lw⟩
  · exact Or.inr ⟨E, k, v, m2, e1, e3, e2, e4, e6.both ((fr_F_X12_note x y I fr0) _ e2)⟩
theorem st_name (x y : Int32) (h : RC n cd pb L t s0 B D I I) (hdn : DN n L) :
    (∃ v I2, F_X11_name 0 x y I L (GRf pb) = some (.inr v) ∧ F_X12_name 24 x y I (uL L 57 0 v.toInt64) (GRf pb) = some (v, I2) ∧ I2 24 5 = 0 ∧ RC n cd pb (uL L 57 0 v.toInt64) t s0 B D I2 I2 ∧ DN n (uL L 57 0 v.toInt64)) ∨
    (∃ E k v I2, F_X11_name 0 x y I L (GRf pb) = some (.inl E) ∧ (E, k) ∈ [("java/lang/IndexOutOfBoundsException", (1 : Int32))] ∧ F_X12_name 24 x y I L (GRf pb) = some (v, I2) ∧ I2 24 5 = k ∧ RC n cd pb L t s0 B D I2 I2) := by
  rcases name_ok x y h with ⟨v, m2, e1, g2, g3, g5⟩ | ⟨E, k, v, m2, e1, e2, e3, e4, e6⟩
  · have g9 := g2
    rw [ll_F_X12_name L (uL L 57 0 v.toInt64)] at g9
    exact Or.inl ⟨v, m2, e1, g9, g3, (g5.both ((fr_F_X12_name x y I fr0) _ g2)).lw, hdn.lw⟩
  · exact Or.inr ⟨E, k, v, m2, e1, e3, e2, e4, e6.both ((fr_F_X12_name x y I fr0) _ e2)⟩
theorem st_kept (hN : 5000 ≤ N) (x y : Int32) (h : RC n cd pb L t s0 B D I I) (hdn : DN n L) :
    (∃ v I2, F_X11_kept 0 x y I L (GRf pb) = some (.inr v) ∧ F_X12_kept N 24 x y I (uL L 57 0 v.toInt64) (GRf pb) = some (v, I2) ∧ I2 24 5 = 0 ∧ RC n cd pb (uL L 57 0 v.toInt64) t s0 B D I2 I2 ∧ DN n (uL L 57 0 v.toInt64)) ∨
    (∃ E k v I2, F_X11_kept 0 x y I L (GRf pb) = some (.inl E) ∧ (E, k) ∈ [("java/lang/IndexOutOfBoundsException", (1 : Int32)), ("java/lang/IllegalArgumentException", 2)] ∧ F_X12_kept N 24 x y I L (GRf pb) = some (v, I2) ∧ I2 24 5 = k ∧ RC n cd pb L t s0 B D I2 I2) := by
  rcases kept_ok' (N := N) hN x y h with ⟨v, m2, e1, g2, g3, g5⟩ | ⟨E, k, v, m2, e1, e2, e3, e4, e6⟩
  · have g9 := g2
    rw [ll_F_X12_kept L (uL L 57 0 v.toInt64)] at g9
    exact Or.inl ⟨v, m2, e1, g9, g3, (g5.both ((fr_F_X12_kept x y I fr0) _ g2)).lw, hdn.lw⟩
  · exact Or.inr ⟨E, k, v, m2, e1, e3, e2, e4, e6.both ((fr_F_X12_kept x y I fr0) _ e2)⟩
theorem st_fault (x : Int32) (h : RC n cd pb L t s0 B D I I) : ∃ v I2, F_X11_fault 0 x I L (GRf pb) = some v ∧ F_X12_fault 24 x I L (GRf pb) = some (v, I2) ∧ RC n cd pb L t s0 B D I2 I2 := by
  obtain ⟨v, e1, e2⟩ := fault_ok x h
  exact ⟨v, _, e1, e2, h.t5.both ((fr_F_X12_fault x I fr0) _ e2)⟩
theorem st_at (hN : 5000 ≤ N) (x : Int32) (h : RC n cd pb L t s0 B D I I) : ∃ v I2, F_X11_at N 0 x I L (GRf pb) = some v ∧ F_X12_at N 24 x I L (GRf pb) = some (v, I2) ∧ RC n cd pb L t s0 B D I2 I2 := by
  obtain ⟨v, e1, e2⟩ := at_ok (N := N) hN x h
  exact ⟨v, _, e1, e2, h.t5.both ((fr_F_X12_at x I fr0) _ e2)⟩
theorem st_down (x : Int32) (h : RC n cd pb L t s0 B D I I) : ∃ v I2, F_X11_down 0 x I L (GRf pb) = some v ∧ F_X12_down 24 x I L (GRf pb) = some (v, I2) ∧ RC n cd pb L t s0 B D I2 I2 := by
  obtain ⟨v, e1, e2⟩ := down_ok' x h
  exact ⟨v, _, e1, e2, h.t5.both ((fr_F_X12_down x I fr0) _ e2)⟩
theorem st_item (x y : Int32) (h : RC n cd pb L t s0 B D I I) : ∃ v I2, F_X11_item 0 x y I L (GRf pb) = some v ∧ F_X12_item 24 x y I L (GRf pb) = some (v, I2) ∧ RC n cd pb L t s0 B D I2 I2 := by
  obtain ⟨v, e1, e2⟩ := item_ok x y h
  exact ⟨v, _, e1, e2, h.t5.both ((fr_F_X12_item x y I fr0) _ e2)⟩
theorem st_craft (x : Int32) (h : RC n cd pb L t s0 B D I I) : ∃ v I2, F_X11_craft 0 x I L (GRf pb) = some v ∧ F_X12_craft 24 x I L (GRf pb) = some (v, I2) ∧ RC n cd pb L t s0 B D I2 I2 := by
  obtain ⟨v, e1, e2⟩ := craft_ok x h
  exact ⟨v, _, e1, e2, h.t5.both ((fr_F_X12_craft x I fr0) _ e2)⟩
end LAW1
