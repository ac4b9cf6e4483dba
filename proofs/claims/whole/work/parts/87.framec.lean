/-! Frames: the class -/
section P18
variable {pb : Nat} {L : ML} {I0 : MI}
theorem fr_F_X8_spoil (hpb : pb ≤ 1) (x0 : Nat) (I : MI) (c_x0 : CO x0) (hI : Fr KC I0 I) : Pre (F_X8_spoil x0 I L (GRf pb)) (fun (r : MI) => Fr KC I0 r) := by
  rw [F_X8_spoil]
  refine Pre.ite ?_ Pre.no
  refine Pre.wm (Fr.up (K := KC) (I0 := I0) hI c_x0) (fun I1 h_I1 => ?_)
  refine Pre.wm (Fr.up (K := KC) (I0 := I0) h_I1 c_x0) (fun I2 h_I2 => ?_)
  refine Pre.wm (Fr.up (K := KC) (I0 := I0) h_I2 c_x0) (fun I3 h_I3 => ?_)
  exact Pre.so h_I3
theorem fr_LF_X8_readWord_12 {N : Nat} (hpb : pb ≤ 1) : ∀ (k : Nat) (y0 : Nat) (y1 : Int32) (I : MI) {L : ML}, CO y0 → Fr KC I0 I → Pre (LF_X8_readWord_12 N k y0 y1 I L (GRf pb)) (fun (r : MI × ML) => Fr KC I0 r.1) := by
  intro k
  induction k with
  | zero =>
    intro y0 y1 I L c_y0 hI r hr
    rw [LF_X8_readWord_12] at hr
    cases hr
  | succ k ih =>
    intro y0 y1 I L c_y0 hI
    rw [LF_X8_readWord_12]
    refine Pre.ite ?_ ?_
    ·
      exact Pre.so hI
    ·
      refine Pre.b1 (Ψ := fun _ => True) Pre.an (fun v4 _ => ?_)
      refine Pre.b1 (Ψ := fun _ => True) Pre.an (fun b6 _ => ?_)
      refine Pre.ite ?_ ?_
      ·
        exact Pre.so hI
      ·
        refine Pre.b1 (Ψ := fun _ => True) Pre.an (fun v9 _ => ?_)
        refine Pre.wv ?_
        refine Pre.wm (Fr.up (K := KC) (I0 := I0) hI c_y0) (fun I12 h_I12 => ?_)
        refine Pre.wv ?_
        exact ih _ _ _ c_y0 h_I12
theorem fr_F_X8_readWord {N : Nat} (hpb : pb ≤ 1) (x0 : Nat) (I : MI) (c_x0 : CO x0) (hI : Fr KC I0 I) : Pre (F_X8_readWord N x0 I L (GRf pb)) (fun (r : MI × ML) => Fr KC I0 r.1) := by
  rw [F_X8_readWord]
  refine Pre.ite ?_ Pre.no
  refine Pre.wm (Fr.up (K := KC) (I0 := I0) hI c_x0) (fun I1 h_I1 => ?_)
  refine Pre.wv ?_
  refine Pre.b1 (Ψ := (fun (r : MI × ML) => Fr KC I0 r.1)) (fr_LF_X8_readWord_12 hpb _ _ _ _ c_x0 h_I1) (fun z14 h_z14 => ?_)
  refine Pre.b1 (Ψ := fun _ => True) Pre.an (fun v16 _ => ?_)
  refine Pre.b1 (Ψ := fun _ => True) Pre.an (fun b18 _ => ?_)
  refine Pre.ite ?_ ?_
  ·
    exact Pre.so h_z14
  ·
    refine Pre.b1 (Ψ := (fun (r : MI) => Fr KC I0 r)) (fr_F_X8_spoil hpb _ _ c_x0 h_z14) (fun I21 h_I21 => ?_)
    exact Pre.so h_I21
theorem fr_LF_X8_readNumber_45 {N : Nat} (hpb : pb ≤ 1) : ∀ (k : Nat) (y0 : Nat) (y1 : Int32) (y2 : Int32) (I : MI) {L : ML}, CO y0 → Fr KC I0 I → Pre (LF_X8_readNumber_45 N k y0 y1 y2 I L (GRf pb)) (fun (r : Int32 × MI) => Fr KC I0 r.2) := by
  intro k
  induction k with
  | zero =>
    intro y0 y1 y2 I L c_y0 hI r hr
    rw [LF_X8_readNumber_45] at hr
    cases hr
  | succ k ih =>
    intro y0 y1 y2 I L c_y0 hI
    rw [LF_X8_readNumber_45]
    refine Pre.ite ?_ ?_
    ·
      exact Pre.so hI
    ·
      refine Pre.b1 (Ψ := fun _ => True) Pre.an (fun v15 _ => ?_)
      refine Pre.b1 (Ψ := fun _ => True) Pre.an (fun b17 _ => ?_)
      refine Pre.ite ?_ ?_
      ·
        exact Pre.so hI
      ·
        refine Pre.b1 (Ψ := fun _ => True) Pre.an (fun v20 _ => ?_)
        refine Pre.wm (Fr.up (K := KC) (I0 := I0) hI c_y0) (fun I22 h_I22 => ?_)
        refine Pre.wm (Fr.up (K := KC) (I0 := I0) h_I22 c_y0) (fun I23 h_I23 => ?_)
        refine Pre.wv ?_
        exact ih _ _ _ _ c_y0 h_I23
theorem fr_F_X8_readNumber {N : Nat} (hpb : pb ≤ 1) (x0 : Nat) (I : MI) (c_x0 : CO x0) (hI : Fr KC I0 I) : Pre (F_X8_readNumber N x0 I L (GRf pb)) (fun (r : MI) => Fr KC I0 r) := by
  rw [F_X8_readNumber]
  refine Pre.ite ?_ Pre.no
  refine Pre.b1 (Ψ := fun _ => True) Pre.an (fun v1 _ => ?_)
  refine Pre.b1 (Ψ := fun _ => True) Pre.an (fun s3 _ => ?_)
  refine Pre.b1 (Ψ := (fun (r : MI) => Fr KC I0 r)) ?_ (fun I7 h_I7 => ?_)
  ·
    refine Pre.ite ?_ ?_
    ·
      exact Pre.so hI
    ·
      refine Pre.wm (Fr.up (K := KC) (I0 := I0) hI c_x0) (fun I11 h_I11 => ?_)
      exact Pre.so h_I11
  ·
    refine Pre.wm (Fr.up (K := KC) (I0 := I0) h_I7 c_x0) (fun I12 h_I12 => ?_)
    refine Pre.wm (Fr.up (K := KC) (I0 := I0) h_I12 c_x0) (fun I13 h_I13 => ?_)
    refine Pre.b1 (Ψ := (fun (r : Int32 × MI) => Fr KC I0 r.2)) (fr_LF_X8_readNumber_45 hpb _ _ _ _ _ c_x0 h_I13) (fun z25 h_z25 => ?_)
    refine Pre.b1 (Ψ := (fun (r : MI) => Fr KC I0 r)) ?_ (fun I27 h_I27 => ?_)
    ·
      refine Pre.ite ?_ ?_
      ·
        exact Pre.so h_z25
      ·
        refine Pre.wm (Fr.up (K := KC) (I0 := I0) h_z25 c_x0) (fun I31 h_I31 => ?_)
        exact Pre.so h_I31
    ·
      refine Pre.ite ?_ ?_
      ·
        refine Pre.b1 (Ψ := (fun (r : MI) => Fr KC I0 r)) (fr_F_X8_spoil hpb _ _ c_x0 h_I27) (fun I33 h_I33 => ?_)
        exact Pre.so h_I33
      ·
        refine Pre.b1 (Ψ := fun _ => True) Pre.an (fun v35 _ => ?_)
        refine Pre.b1 (Ψ := fun _ => True) Pre.an (fun b37 _ => ?_)
        refine Pre.ite ?_ ?_
        ·
          exact Pre.so h_I27
        ·
          refine Pre.b1 (Ψ := (fun (r : MI) => Fr KC I0 r)) (fr_F_X8_spoil hpb _ _ c_x0 h_I27) (fun I40 h_I40 => ?_)
          exact Pre.so h_I40
theorem fr_LF_X8_next_0 {N : Nat} (hpb : pb ≤ 1) : ∀ (k : Nat) (y0 : Nat) (I : MI) {L : ML}, CO y0 → Fr KC I0 I → Pre (LF_X8_next_0 N k y0 I L (GRf pb)) (fun (r : MI) => Fr KC I0 r) := by
  intro k
  induction k with
  | zero =>
    intro y0 I L c_y0 hI r hr
    rw [LF_X8_next_0] at hr
    cases hr
  | succ k ih =>
    intro y0 I L c_y0 hI
    rw [LF_X8_next_0]
    refine Pre.ite ?_ ?_
    ·
      exact Pre.so hI
    ·
      refine Pre.b1 (Ψ := fun _ => True) Pre.an (fun v2 _ => ?_)
      refine Pre.b1 (Ψ := fun _ => True) Pre.an (fun b4 _ => ?_)
      refine Pre.ite ?_ ?_
      ·
        exact Pre.so hI
      ·
        refine Pre.wm (Fr.up (K := KC) (I0 := I0) hI c_y0) (fun I7 h_I7 => ?_)
        exact ih _ _ c_y0 h_I7
theorem fr_F_X8_next {N : Nat} (hpb : pb ≤ 1) (x0 : Nat) (I : MI) (c_x0 : CO x0) (hI : Fr KC I0 I) : Pre (F_X8_next N x0 I L (GRf pb)) (fun (r : MI × ML) => Fr KC I0 r.1) := by
  rw [F_X8_next]
  refine Pre.ite ?_ Pre.no
  refine Pre.b1 (Ψ := (fun (r : MI) => Fr KC I0 r)) (fr_LF_X8_next_0 hpb _ _ _ c_x0 hI) (fun z8 h_z8 => ?_)
  refine Pre.wm (Fr.up (K := KC) (I0 := I0) h_z8 c_x0) (fun I10 h_I10 => ?_)
  refine Pre.b1 (Ψ := fun _ => True) Pre.an (fun v11 _ => ?_)
  refine Pre.ite ?_ ?_
  ·
    refine Pre.wm (Fr.up (K := KC) (I0 := I0) h_I10 c_x0) (fun I42 h_I42 => ?_)
    exact Pre.so h_I42
  ·
    refine Pre.b1 (Ψ := fun _ => True) Pre.an (fun b14 _ => ?_)
    refine Pre.ite ?_ ?_
    ·
      refine Pre.b1 (Ψ := fun _ => True) Pre.an (fun b17 _ => ?_)
      refine Pre.ite ?_ ?_
      ·
        refine Pre.ite ?_ ?_
        ·
          refine Pre.b1 (Ψ := (fun (r : MI) => Fr KC I0 r)) (fr_F_X8_readNumber hpb _ _ c_x0 h_I10) (fun I37 h_I37 => ?_)
          exact Pre.so h_I37
        ·
          refine Pre.ite ?_ ?_
          ·
            refine Pre.wm (Fr.up (K := KC) (I0 := I0) h_I10 c_x0) (fun I24 h_I24 => ?_)
            refine Pre.wm (Fr.up (K := KC) (I0 := I0) h_I24 c_x0) (fun I25 h_I25 => ?_)
            refine Pre.wm (Fr.up (K := KC) (I0 := I0) h_I25 c_x0) (fun I26 h_I26 => ?_)
            exact Pre.so h_I26
          ·
            refine Pre.ite ?_ ?_
            ·
              refine Pre.wm (Fr.up (K := KC) (I0 := I0) h_I10 c_x0) (fun I28 h_I28 => ?_)
              refine Pre.wm (Fr.up (K := KC) (I0 := I0) h_I28 c_x0) (fun I29 h_I29 => ?_)
              refine Pre.wm (Fr.up (K := KC) (I0 := I0) h_I29 c_x0) (fun I30 h_I30 => ?_)
              exact Pre.so h_I30
            ·
              refine Pre.ite ?_ ?_
              ·
                refine Pre.wm (Fr.up (K := KC) (I0 := I0) h_I10 c_x0) (fun I34 h_I34 => ?_)
                refine Pre.wm (Fr.up (K := KC) (I0 := I0) h_I34 c_x0) (fun I35 h_I35 => ?_)
                refine Pre.wm (Fr.up (K := KC) (I0 := I0) h_I35 c_x0) (fun I36 h_I36 => ?_)
                exact Pre.so h_I36
              ·
                refine Pre.b1 (Ψ := (fun (r : MI) => Fr KC I0 r)) (fr_F_X8_spoil hpb _ _ c_x0 h_I10) (fun I32 h_I32 => ?_)
                exact Pre.so h_I32
      ·
        refine Pre.b1 (Ψ := (fun (r : MI) => Fr KC I0 r)) (fr_F_X8_readNumber hpb _ _ c_x0 h_I10) (fun I20 h_I20 => ?_)
        exact Pre.so h_I20
    ·
      refine Pre.b2 (Ψ := (fun (r : MI × ML) => Fr KC I0 r.1)) (fr_F_X8_readWord hpb _ _ c_x0 h_I10) (fun I39 L40 h_L40 => ?_)
      exact Pre.so h_L40
theorem fr_F_X8_refuse (hpb : pb ≤ 1) (x0 : Nat) (x1 : Int32) (I : MI) (c_x0 : CO x0) (hI : Fr KC I0 I) : Pre (F_X8_refuse x0 x1 I L (GRf pb)) (fun (r : Bool × MI) => Fr KC I0 r.2) := by
  rw [F_X8_refuse]
  refine Pre.ite ?_ Pre.no
  refine Pre.b1 (Ψ := (fun (r : MI) => Fr KC I0 r)) ?_ (fun I1 h_I1 => ?_)
  ·
    refine Pre.ite ?_ ?_
    ·
      exact Pre.so hI
    ·
      refine Pre.wm (Fr.up (K := KC) (I0 := I0) hI c_x0) (fun I5 h_I5 => ?_)
      refine Pre.wm (Fr.up (K := KC) (I0 := I0) h_I5 c_x0) (fun I6 h_I6 => ?_)
      exact Pre.so h_I6
  ·
    exact Pre.so h_I1
theorem fr_F_X8_takeNumber {N : Nat} (hpb : pb ≤ 1) (x0 : Nat) (I : MI) (c_x0 : CO x0) (hI : Fr KC I0 I) : Pre (F_X8_takeNumber N x0 I L (GRf pb)) (fun (r : Bool × MI × ML) => Fr KC I0 r.2.1) := by
  rw [F_X8_takeNumber]
  refine Pre.ite ?_ Pre.no
  refine Pre.b2 (Ψ := (fun (r : MI × ML) => Fr KC I0 r.1)) (fr_F_X8_next hpb _ _ c_x0 hI) (fun I1 L2 h_L2 => ?_)
  refine Pre.ite ?_ ?_
  ·
    exact Pre.so h_L2
  ·
    refine Pre.b2 (Ψ := (fun (r : Bool × MI) => Fr KC I0 r.2)) (fr_F_X8_refuse hpb _ _ _ c_x0 h_L2) (fun b5 I6 h_I6 => ?_)
    refine Pre.ite ?_ ?_
    ·
      exact Pre.so h_I6
    ·
      exact Pre.so h_I6
theorem fr_F_X8_takeSign {N : Nat} (hpb : pb ≤ 1) (x0 : Nat) (x1 : Int32) (I : MI) (c_x0 : CO x0) (hI : Fr KC I0 I) : Pre (F_X8_takeSign N x0 x1 I L (GRf pb)) (fun (r : Bool × MI × ML) => Fr KC I0 r.2.1) := by
  rw [F_X8_takeSign]
  refine Pre.ite ?_ Pre.no
  refine Pre.b2 (Ψ := (fun (r : MI × ML) => Fr KC I0 r.1)) (fr_F_X8_next hpb _ _ c_x0 hI) (fun I1 L2 h_L2 => ?_)
  refine Pre.b1 (Ψ := fun _ => True) Pre.an (fun b4 _ => ?_)
  refine Pre.ite ?_ ?_
  ·
    refine Pre.b2 (Ψ := (fun (r : Bool × MI) => Fr KC I0 r.2)) (fr_F_X8_refuse hpb _ _ _ c_x0 h_L2) (fun b7 I8 h_I8 => ?_)
    refine Pre.ite ?_ ?_
    ·
      exact Pre.so h_I8
    ·
      exact Pre.so h_I8
  ·
    exact Pre.so h_L2
theorem fr_F_X1_begin (hpb : pb ≤ 1) (x0 : Nat) (I : MI) (c_x0 : CO x0) (hI : Fr KC I0 I) : Pre (F_X1_begin x0 I L (GRf pb)) (fun (r : MI) => Fr KC I0 r) := by
  rw [F_X1_begin]
  refine Pre.ite ?_ Pre.no
  refine Pre.wm (Fr.up (K := KC) (I0 := I0) hI c_x0) (fun I1 h_I1 => ?_)
  exact Pre.so h_I1
theorem fr_F_X1_send (hpb : pb ≤ 1) (x0 : Nat) (x1 : Int32) (I : MI) (c_x0 : CO x0) (hI : Fr KC I0 I) : Pre (F_X1_send x0 x1 I L (GRf pb)) (fun (r : MI) => Fr KC I0 r) := by
  rw [F_X1_send]
  refine Pre.ite ?_ Pre.no
  refine Pre.bd (Ψ := CO) (rfC hpb c_x0) (fun a1 c_a1 => ?_)
  refine Pre.b1 (Ψ := fun _ => True) Pre.an (fun v2 _ => ?_)
  refine Pre.bd (Fr.w1 (K := KC) (I0 := I0) hI (fun _ => c_a1)) (fun I4 h_I4 => ?_)
  refine Pre.wm (Fr.up (K := KC) (I0 := I0) h_I4 c_x0) (fun I5 h_I5 => ?_)
  exact Pre.so h_I5
theorem fr_LF_X7_begin_2 {N : Nat} (hpb : pb ≤ 1) : ∀ (k : Nat) (y0 : Nat) (y1 : Int32) (I : MI) {L : ML}, CO y0 → Fr KC I0 I → Pre (LF_X7_begin_2 N k y0 y1 I L (GRf pb)) (fun (r : MI) => Fr KC I0 r) := by
  intro k
  induction k with
  | zero =>
    intro y0 y1 I L c_y0 hI r hr
    rw [LF_X7_begin_2] at hr
    cases hr
  | succ k ih =>
    intro y0 y1 I L c_y0 hI
    rw [LF_X7_begin_2]
    refine Pre.ite ?_ ?_
    ·
      exact Pre.so hI
    ·
      refine Pre.bd (Ψ := CO) (rfC hpb c_y0) (fun a2 c_a2 => ?_)
      refine Pre.bd (Fr.w1 (K := KC) (I0 := I0) hI (fun _ => c_a2)) (fun I3 h_I3 => ?_)
      refine Pre.bd (Ψ := CO) (rfC hpb c_y0) (fun a4 c_a4 => ?_)
      refine Pre.bd (Fr.w1 (K := KC) (I0 := I0) h_I3 (fun _ => c_a4)) (fun I5 h_I5 => ?_)
      refine Pre.bd (Ψ := CO) (rfC hpb c_y0) (fun a6 c_a6 => ?_)
      refine Pre.bd (Fr.w1 (K := KC) (I0 := I0) h_I5 (fun _ => c_a6)) (fun I7 h_I7 => ?_)
      refine Pre.wv ?_
      exact ih _ _ _ c_y0 h_I7
theorem fr_F_X7_begin {N : Nat} (hpb : pb ≤ 1) (x0 : Nat) (I : MI) (c_x0 : CO x0) (hI : Fr KC I0 I) : Pre (F_X7_begin N x0 I L (GRf pb)) (fun (r : MI) => Fr KC I0 r) := by
  rw [F_X7_begin]
  refine Pre.ite ?_ Pre.no
  refine Pre.b1 (Ψ := (fun (r : MI) => Fr KC I0 r)) (fr_LF_X7_begin_2 hpb _ _ _ _ c_x0 hI) (fun z9 h_z9 => ?_)
  exact Pre.so h_z9
theorem fr_F_X6_begin (hpb : pb ≤ 1) (x0 : Nat) (I : MI) (c_x0 : CO x0) (hI : Fr KC I0 I) : Pre (F_X6_begin x0 I L (GRf pb)) (fun (r : MI) => Fr KC I0 r) := by
  rw [F_X6_begin]
  refine Pre.ite ?_ Pre.no
  refine Pre.wm (Fr.up (K := KC) (I0 := I0) hI c_x0) (fun I1 h_I1 => ?_)
  refine Pre.wm (Fr.up (K := KC) (I0 := I0) h_I1 c_x0) (fun I2 h_I2 => ?_)
  refine Pre.wm (Fr.up (K := KC) (I0 := I0) h_I2 c_x0) (fun I3 h_I3 => ?_)
  refine Pre.wm (Fr.up (K := KC) (I0 := I0) h_I3 c_x0) (fun I4 h_I4 => ?_)
  exact Pre.so h_I4
theorem fr_F_X5_clear (hpb : pb ≤ 1) (x0 : Nat) (I : MI) (c_x0 : CO x0) (hI : Fr KC I0 I) : Pre (F_X5_clear x0 I L (GRf pb)) (fun (r : MI) => Fr KC I0 r) := by
  rw [F_X5_clear]
  refine Pre.ite ?_ Pre.no
  refine Pre.wm (Fr.up (K := KC) (I0 := I0) hI c_x0) (fun I1 h_I1 => ?_)
  exact Pre.so h_I1
theorem fr_F_X2_begin {N : Nat} (hpb : pb ≤ 1) (x0 : Nat) (I : MI) (c_x0 : CO x0) (hI : Fr KC I0 I) : Pre (F_X2_begin N x0 I L (GRf pb)) (fun (r : MI) => Fr KC I0 r) := by
  rw [F_X2_begin]
  refine Pre.ite ?_ Pre.no
  refine Pre.bd (Ψ := CO) (rfC hpb c_x0) (fun a1 c_a1 => ?_)
  refine Pre.b1 (Ψ := (fun (r : MI) => Fr KC I0 r)) (fr_F_X7_begin hpb _ _ c_a1 hI) (fun I2 h_I2 => ?_)
  refine Pre.bd (Ψ := CO) (rfC hpb c_x0) (fun a4 c_a4 => ?_)
  refine Pre.b1 (Ψ := (fun (r : MI) => Fr KC I0 r)) (fr_F_X6_begin hpb _ _ c_a4 h_I2) (fun I5 h_I5 => ?_)
  refine Pre.bd (Ψ := CO) (rfC hpb c_x0) (fun a7 c_a7 => ?_)
  refine Pre.b1 (Ψ := (fun (r : MI) => Fr KC I0 r)) (fr_F_X1_begin hpb _ _ c_a7 h_I5) (fun I8 h_I8 => ?_)
  refine Pre.bd (Ψ := CO) (rfC hpb c_x0) (fun a10 c_a10 => ?_)
  refine Pre.b1 (Ψ := (fun (r : MI) => Fr KC I0 r)) (fr_F_X5_clear hpb _ _ c_a10 h_I8) (fun I11 h_I11 => ?_)
  refine Pre.wm (Fr.up (K := KC) (I0 := I0) h_I11 c_x0) (fun I13 h_I13 => ?_)
  refine Pre.wm (Fr.up (K := KC) (I0 := I0) h_I13 c_x0) (fun I14 h_I14 => ?_)
  refine Pre.wm (Fr.up (K := KC) (I0 := I0) h_I14 c_x0) (fun I15 h_I15 => ?_)
  refine Pre.wm (Fr.up (K := KC) (I0 := I0) h_I15 c_x0) (fun I16 h_I16 => ?_)
  refine Pre.wm (Fr.up (K := KC) (I0 := I0) h_I16 c_x0) (fun I17 h_I17 => ?_)
  refine Pre.wm (Fr.up (K := KC) (I0 := I0) h_I17 c_x0) (fun I18 h_I18 => ?_)
  refine Pre.wm (Fr.up (K := KC) (I0 := I0) h_I18 c_x0) (fun I19 h_I19 => ?_)
  exact Pre.so h_I19
theorem fr_F_X2_exchangePlan (hpb : pb ≤ 1) (x0 : Nat) (x1 : Nat) (I : MI) (c_x0 : CO x0) (c_x1 : CO x1) (hI : Fr KC I0 I) : Pre (F_X2_exchangePlan x0 x1 I L (GRf pb)) (fun (r : Nat × MR) => CO r.1) := by
  rw [F_X2_exchangePlan]
  refine Pre.ite ?_ Pre.no
  refine Pre.ite ?_ Pre.no
  refine Pre.bd (Ψ := CO) (rfC hpb c_x0) (fun a1 c_a1 => ?_)
  refine Pre.wv ?_
  exact Pre.so c_a1
theorem fr_F_X2_planned (hpb : pb ≤ 1) (x0 : Nat) (I : MI) (c_x0 : CO x0) (hI : Fr KC I0 I) : Pre (F_X2_planned x0 I L (GRf pb)) (fun (r : Nat) => CO r) := by
  rw [F_X2_planned]
  refine Pre.ite ?_ Pre.no
  refine Pre.bd (Ψ := CO) (rfC hpb c_x0) (fun a1 c_a1 => ?_)
  exact Pre.so c_a1
theorem fr_F_X2_downlink (hpb : pb ≤ 1) (x0 : Nat) (I : MI) (c_x0 : CO x0) (hI : Fr KC I0 I) : Pre (F_X2_downlink x0 I L (GRf pb)) (fun (r : Nat) => CO r) := by
  rw [F_X2_downlink]
  refine Pre.ite ?_ Pre.no
  refine Pre.bd (Ψ := CO) (rfC hpb c_x0) (fun a1 c_a1 => ?_)
  exact Pre.so c_a1
theorem fr_F_X2_steering (hpb : pb ≤ 1) (x0 : Nat) (I : MI) (c_x0 : CO x0) (hI : Fr KC I0 I) : Pre (F_X2_steering x0 I L (GRf pb)) (fun (r : Nat) => CO r) := by
  rw [F_X2_steering]
  refine Pre.ite ?_ Pre.no
  refine Pre.bd (Ψ := CO) (rfC hpb c_x0) (fun a1 c_a1 => ?_)
  exact Pre.so c_a1
theorem fr_F_X5_itemAt (hpb : pb ≤ 1) (x0 : Nat) (x1 : Int32) (I : MI) (c_x0 : CO x0) (hI : Fr KC I0 I) : Pre (F_X5_itemAt x0 x1 I L (GRf pb)) (fun (r : Nat) => CO r) := by
  rw [F_X5_itemAt]
  refine Pre.ite ?_ Pre.no
  refine Pre.ite ?_ ?_
  ·
    refine Pre.bd (Ψ := CO) (rfC hpb c_x0) (fun a2 c_a2 => ?_)
    exact Pre.so c_a2
  ·
    refine Pre.ite ?_ ?_
    ·
      refine Pre.bd (Ψ := CO) (rfC hpb c_x0) (fun a4 c_a4 => ?_)
      exact Pre.so c_a4
    ·
      refine Pre.bd (Ψ := CO) (rfC hpb c_x0) (fun a5 c_a5 => ?_)
      refine Pre.ite ?_ ?_
      ·
        refine Pre.bd (Ψ := CO) (rfC hpb c_x0) (fun a7 c_a7 => ?_)
        exact Pre.so c_a7
      ·
        refine Pre.bd (Ψ := CO) (raC hpb c_a5) (fun a8 c_a8 => ?_)
        exact Pre.so c_a8
theorem fr_F_X10_unitAt (hpb : pb ≤ 1) (x0 : Nat) (x1 : Int32) (I : MI) (c_x0 : CO x0) (hI : Fr KC I0 I) : Pre (F_X10_unitAt x0 x1 I L (GRf pb)) (fun (r : Nat) => CO r) := by
  rw [F_X10_unitAt]
  refine Pre.ite ?_ Pre.no
  refine Pre.b1 (Ψ := fun _ => True) Pre.an (fun b1 _ => ?_)
  refine Pre.ite ?_ ?_
  ·
    refine Pre.bd (Ψ := CO) (rfC hpb c_x0) (fun a4 c_a4 => ?_)
    exact Pre.so c_a4
  ·
    refine Pre.bd (Ψ := CO) (rfC hpb c_x0) (fun a5 c_a5 => ?_)
    refine Pre.ite ?_ ?_
    ·
      refine Pre.bd (Ψ := CO) (rfC hpb c_x0) (fun a7 c_a7 => ?_)
      exact Pre.so c_a7
    ·
      refine Pre.bd (Ψ := CO) (raC hpb c_a5) (fun a8 c_a8 => ?_)
      exact Pre.so c_a8
theorem fr_F_X3_hasCome (hpb : pb ≤ 1) (x0 : Nat) (x1 : Int32) (I : MI) (c_x0 : CO x0) (hI : Fr KC I0 I) : Pre (F_X3_hasCome x0 x1 I L (GRf pb)) (fun (r : Bool × MI) => Fr KC I0 r.2) := by
  rw [F_X3_hasCome]
  refine Pre.ite ?_ Pre.no
  refine Pre.b1 (Ψ := fun _ => True) Pre.an (fun s1 _ => ?_)
  refine Pre.b1 (Ψ := fun _ => True) Pre.an (fun s13 _ => ?_)
  refine Pre.bd (Ψ := fun _ => True) Pre.an (fun _ _ => ?_)
  refine Pre.wm (Fr.up (K := KC) (I0 := I0) hI c_x0) (fun I22 h_I22 => ?_)
  refine Pre.bd (Ψ := fun _ => True) Pre.an (fun q23 _ => ?_)
  exact Pre.so h_I22
theorem fr_F_X2_isDue (hpb : pb ≤ 1) (x0 : Nat) (x1 : Nat) (x2 : Int32) (I : MI) (c_x0 : CO x0) (c_x1 : CO x1) (hI : Fr KC I0 I) : Pre (F_X2_isDue x0 x1 x2 I L (GRf pb)) (fun (r : Bool × MI) => Fr KC I0 r.2) := by
  rw [F_X2_isDue]
  refine Pre.ite ?_ Pre.no
  refine Pre.ite ?_ Pre.no
  refine Pre.b1 (Ψ := fun _ => True) Pre.an (fun b1 _ => ?_)
  refine Pre.ite ?_ ?_
  ·
    refine Pre.b1 (Ψ := fun _ => True) Pre.an (fun b4 _ => ?_)
    exact Pre.so hI
  ·
    refine Pre.b1 (Ψ := fun _ => True) Pre.an (fun v6 _ => ?_)
    refine Pre.b2 (Ψ := (fun (r : Bool × MI) => Fr KC I0 r.2)) (fr_F_X3_hasCome hpb _ _ _ c_x1 hI) (fun b8 I9 h_I9 => ?_)
    exact Pre.so h_I9
theorem fr_F_X2_switchOn (hpb : pb ≤ 1) (x0 : Nat) (I : MI) (c_x0 : CO x0) (hI : Fr KC I0 I) : Pre (F_X2_switchOn x0 I L (GRf pb)) (fun (r : Bool × MI) => Fr KC I0 r.2) := by
  rw [F_X2_switchOn]
  refine Pre.ite ?_ Pre.no
  refine Pre.b1 (Ψ := fun _ => True) Pre.an (fun b1 _ => ?_)
  refine Pre.ite ?_ ?_
  ·
    exact Pre.so hI
  ·
    refine Pre.bd (Ψ := CO) (rfC hpb c_x0) (fun a4 c_a4 => ?_)
    refine Pre.bd (Ψ := fun _ => True) Pre.an (fun v5 _ => ?_)
    refine Pre.ite ?_ ?_
    ·
      refine Pre.bd (Fr.w1 (K := KC) (I0 := I0) hI (fun _ => c_a4)) (fun I8 h_I8 => ?_)
      exact Pre.so h_I8
    ·
      refine Pre.bd (Fr.w1 (K := KC) (I0 := I0) hI (fun _ => c_a4)) (fun I7 h_I7 => ?_)
      exact Pre.so h_I7
theorem fr_F_X2_switchOff (hpb : pb ≤ 1) (x0 : Nat) (I : MI) (c_x0 : CO x0) (hI : Fr KC I0 I) : Pre (F_X2_switchOff x0 I L (GRf pb)) (fun (r : Bool × MI) => Fr KC I0 r.2) := by
  rw [F_X2_switchOff]
  refine Pre.ite ?_ Pre.no
  refine Pre.b1 (Ψ := fun _ => True) Pre.an (fun b1 _ => ?_)
  refine Pre.ite ?_ ?_
  ·
    exact Pre.so hI
  ·
    refine Pre.bd (Ψ := CO) (rfC hpb c_x0) (fun a4 c_a4 => ?_)
    refine Pre.bd (Fr.w1 (K := KC) (I0 := I0) hI (fun _ => c_a4)) (fun I5 h_I5 => ?_)
    exact Pre.so h_I5
theorem fr_F_X7_setAim (hpb : pb ≤ 1) (x0 : Nat) (x1 : Int32) (x2 : Int32) (I : MI) (c_x0 : CO x0) (hI : Fr KC I0 I) : Pre (F_X7_setAim x0 x1 x2 I L (GRf pb)) (fun (r : MI) => Fr KC I0 r) := by
  rw [F_X7_setAim]
  refine Pre.ite ?_ Pre.no
  refine Pre.ite ?_ ?_
  ·
    exact Pre.so hI
  ·
    refine Pre.bd (Ψ := CO) (rfC hpb c_x0) (fun a2 c_a2 => ?_)
    refine Pre.ite ?_ ?_
    ·
      exact Pre.so hI
    ·
      refine Pre.bd (Fr.w1 (K := KC) (I0 := I0) hI (fun _ => c_a2)) (fun I4 h_I4 => ?_)
      exact Pre.so h_I4
theorem fr_LF_X9_clear_2 {N : Nat} (hpb : pb ≤ 1) : ∀ (k : Nat) (y0 : Nat) (y1 : Int32) (y2 : Int32) (I : MI) {L : ML}, CO y0 → Fr KC I0 I → Pre (LF_X9_clear_2 N k y0 y1 y2 I L (GRf pb)) (fun (r : MI) => Fr KC I0 r) := by
  intro k
  induction k with
  | zero =>
    intro y0 y1 y2 I L c_y0 hI r hr
    rw [LF_X9_clear_2] at hr
    cases hr
  | succ k ih =>
    intro y0 y1 y2 I L c_y0 hI
    rw [LF_X9_clear_2]
    refine Pre.bd (Ψ := CO) (rfC hpb c_y0) (fun a1 c_a1 => ?_)
    refine Pre.ite ?_ ?_
    ·
      exact Pre.so hI
    ·
      refine Pre.bd (Fr.w1 (K := KC) (I0 := I0) hI (fun _ => c_a1)) (fun I3 h_I3 => ?_)
      refine Pre.wv ?_
      exact ih _ _ _ _ c_y0 h_I3
theorem fr_F_X9_clear {N : Nat} (hpb : pb ≤ 1) (x0 : Nat) (x1 : Int32) (I : MI) (c_x0 : CO x0) (hI : Fr KC I0 I) : Pre (F_X9_clear N x0 x1 I L (GRf pb)) (fun (r : MI) => Fr KC I0 r) := by
  rw [F_X9_clear]
  refine Pre.ite ?_ Pre.no
  refine Pre.b1 (Ψ := (fun (r : MI) => Fr KC I0 r)) (fr_LF_X9_clear_2 hpb _ _ _ _ _ c_x0 hI) (fun z5 h_z5 => ?_)
  refine Pre.wm (Fr.up (K := KC) (I0 := I0) h_z5 c_x0) (fun I7 h_I7 => ?_)
  refine Pre.bd (Ψ := CO) (rfC hpb c_x0) (fun a8 c_a8 => ?_)
  refine Pre.bd (Fr.w1 (K := KC) (I0 := I0) h_I7 (fun _ => c_a8)) (fun I9 h_I9 => ?_)
  refine Pre.bd (Fr.w1 (K := KC) (I0 := I0) h_I9 (fun _ => c_a8)) (fun I10 h_I10 => ?_)
  refine Pre.bd (Fr.w1 (K := KC) (I0 := I0) h_I10 (fun _ => c_a8)) (fun I11 h_I11 => ?_)
  refine Pre.bd (Fr.w1 (K := KC) (I0 := I0) h_I11 (fun _ => c_a8)) (fun I12 h_I12 => ?_)
  refine Pre.bd (Fr.w1 (K := KC) (I0 := I0) h_I12 (fun _ => c_a8)) (fun I13 h_I13 => ?_)
  exact Pre.so h_I13
theorem fr_F_X10_draw (hpb : pb ≤ 1) (x0 : Nat) (I : MI) (c_x0 : CO x0) (hI : Fr KC I0 I) : Pre (F_X10_draw x0 I L (GRf pb)) (fun (r : Int32 × MI) => Fr KC I0 r.2) := by
  rw [F_X10_draw]
  refine Pre.ite ?_ Pre.no
  refine Pre.wm (Fr.up (K := KC) (I0 := I0) hI c_x0) (fun I1 h_I1 => ?_)
  exact Pre.so h_I1
theorem fr_F_X10_jot (hpb : pb ≤ 1) (x0 : Nat) (x1 : Nat) (x2 : Int32) (x3 : Int32) (I : MI) (c_x0 : CO x0) (c_x1 : CO x1) (hI : Fr KC I0 I) : Pre (F_X10_jot x0 x1 x2 x3 I L (GRf pb)) (fun (r : MI) => Fr KC I0 r) := by
  rw [F_X10_jot]
  refine Pre.ite ?_ Pre.no
  refine Pre.ite ?_ Pre.no
  refine Pre.wv ?_
  refine Pre.b1 (Ψ := (fun (r : MI) => Fr KC I0 r)) ?_ (fun I2 h_I2 => ?_)
  ·
    refine Pre.ite ?_ ?_
    ·
      exact Pre.so hI
    ·
      refine Pre.bd (Ψ := CO) (rfC hpb c_x0) (fun a6 c_a6 => ?_)
      refine Pre.b1 (Ψ := (fun (r : MI) => Fr KC I0 r)) ?_ (fun I7 h_I7 => ?_)
      ·
        refine Pre.ite ?_ ?_
        ·
          exact Pre.so hI
        ·
          refine Pre.bd (Ψ := CO) (rfC hpb c_x1) (fun a11 c_a11 => ?_)
          refine Pre.bd (Ψ := fun _ => True) Pre.an (fun v12 _ => ?_)
          refine Pre.bd (Fr.w1 (K := KC) (I0 := I0) hI (fun _ => c_a6)) (fun I13 h_I13 => ?_)
          refine Pre.bd (Fr.w1 (K := KC) (I0 := I0) h_I13 (fun _ => c_a6)) (fun I14 h_I14 => ?_)
          refine Pre.bd (Fr.w1 (K := KC) (I0 := I0) h_I14 (fun _ => c_a6)) (fun I15 h_I15 => ?_)
          exact Pre.so h_I15
      ·
        exact Pre.so h_I7
  ·
    refine Pre.wm (Fr.up (K := KC) (I0 := I0) h_I2 c_x0) (fun I16 h_I16 => ?_)
    exact Pre.so h_I16
theorem fr_F_X10_makeUnit {N : Nat} (hpb : pb ≤ 1) (x0 : Nat) (x1 : Nat) (I : MI) (c_x0 : CO x0) (c_x1 : CO x1) (hI : Fr KC I0 I) : Pre (F_X10_makeUnit N x0 x1 I L (GRf pb)) (fun (r : MI) => Fr KC I0 r) := by
  rw [F_X10_makeUnit]
  refine Pre.ite ?_ Pre.no
  refine Pre.ite ?_ Pre.no
  refine Pre.bd (Ψ := CO) (rfC hpb c_x1) (fun a1 c_a1 => ?_)
  refine Pre.b2 (Ψ := (fun (r : Int32 × MI) => Fr KC I0 r.2)) (fr_F_X10_draw hpb _ _ c_x0 hI) (fun v2 I3 h_I3 => ?_)
  refine Pre.bd (Fr.w1 (K := KC) (I0 := I0) h_I3 (fun _ => c_a1)) (fun I5 h_I5 => ?_)
  refine Pre.b1 (Ψ := fun _ => True) Pre.an (fun v6 _ => ?_)
  refine Pre.bd (Fr.w1 (K := KC) (I0 := I0) h_I5 (fun _ => c_a1)) (fun I8 h_I8 => ?_)
  refine Pre.bd (Fr.w1 (K := KC) (I0 := I0) h_I8 (fun _ => c_a1)) (fun I9 h_I9 => ?_)
  refine Pre.b1 (Ψ := fun _ => True) Pre.an (fun v10 _ => ?_)
  refine Pre.b1 (Ψ := fun _ => True) Pre.an (fun v12 _ => ?_)
  refine Pre.bd (Fr.w1 (K := KC) (I0 := I0) h_I9 (fun _ => c_a1)) (fun I14 h_I14 => ?_)
  refine Pre.bd (Ψ := fun _ => True) Pre.an (fun v15 _ => ?_)
  refine Pre.wm (Fr.up (K := KC) (I0 := I0) h_I14 c_x0) (fun I16 h_I16 => ?_)
  refine Pre.b1 (Ψ := fun _ => True) Pre.an (fun v17 _ => ?_)
  refine Pre.bd (Fr.w1 (K := KC) (I0 := I0) h_I16 (fun _ => c_a1)) (fun I19 h_I19 => ?_)
  refine Pre.bd (Ψ := fun _ => True) Pre.an (fun v20 _ => ?_)
  refine Pre.b1 (Ψ := (fun (r : MI) => Fr KC I0 r)) (fr_F_X10_jot hpb _ _ _ _ _ c_x0 c_x1 h_I19) (fun I21 h_I21 => ?_)
  exact Pre.so h_I21
theorem fr_F_X10_makeStore {N : Nat} (hpb : pb ≤ 1) (x0 : Nat) (x1 : Nat) (I : MI) (c_x0 : CO x0) (c_x1 : CO x1) (hI : Fr KC I0 I) : Pre (F_X10_makeStore N x0 x1 I L (GRf pb)) (fun (r : MI) => Fr KC I0 r) := by
  rw [F_X10_makeStore]
  refine Pre.ite ?_ Pre.no
  refine Pre.ite ?_ Pre.no
  refine Pre.bd (Ψ := CO) (rfC hpb c_x1) (fun a1 c_a1 => ?_)
  refine Pre.b2 (Ψ := (fun (r : Int32 × MI) => Fr KC I0 r.2)) (fr_F_X10_draw hpb _ _ c_x0 hI) (fun v2 I3 h_I3 => ?_)
  refine Pre.bd (Ψ := fun _ => True) Pre.an (fun v5 _ => ?_)
  refine Pre.bd (Fr.w1 (K := KC) (I0 := I0) h_I3 (fun _ => c_a1)) (fun I6 h_I6 => ?_)
  refine Pre.b1 (Ψ := fun _ => True) Pre.an (fun v7 _ => ?_)
  refine Pre.bd (Fr.w1 (K := KC) (I0 := I0) h_I6 (fun _ => c_a1)) (fun I9 h_I9 => ?_)
  refine Pre.bd (Fr.w1 (K := KC) (I0 := I0) h_I9 (fun _ => c_a1)) (fun I10 h_I10 => ?_)
  refine Pre.bd (Ψ := fun _ => True) Pre.an (fun v11 _ => ?_)
  refine Pre.bd (Fr.w1 (K := KC) (I0 := I0) h_I10 (fun _ => c_a1)) (fun I12 h_I12 => ?_)
  refine Pre.bd (Ψ := fun _ => True) Pre.an (fun v13 _ => ?_)
  refine Pre.b1 (Ψ := (fun (r : MI) => Fr KC I0 r)) (fr_F_X10_jot hpb _ _ _ _ _ c_x0 c_x1 h_I12) (fun I14 h_I14 => ?_)
  exact Pre.so h_I14
theorem fr_F_X10_makeBattery {N : Nat} (hpb : pb ≤ 1) (x0 : Nat) (x1 : Nat) (I : MI) (c_x0 : CO x0) (c_x1 : CO x1) (hI : Fr KC I0 I) : Pre (F_X10_makeBattery N x0 x1 I L (GRf pb)) (fun (r : MI) => Fr KC I0 r) := by
  rw [F_X10_makeBattery]
  refine Pre.ite ?_ Pre.no
  refine Pre.ite ?_ Pre.no
  refine Pre.bd (Ψ := CO) (rfC hpb c_x1) (fun a1 c_a1 => ?_)
  refine Pre.b2 (Ψ := (fun (r : Int32 × MI) => Fr KC I0 r.2)) (fr_F_X10_draw hpb _ _ c_x0 hI) (fun v2 I3 h_I3 => ?_)
  refine Pre.bd (Fr.w1 (K := KC) (I0 := I0) h_I3 (fun _ => c_a1)) (fun I5 h_I5 => ?_)
  refine Pre.bd (Ψ := fun _ => True) Pre.an (fun v6 _ => ?_)
  refine Pre.bd (Fr.w1 (K := KC) (I0 := I0) h_I5 (fun _ => c_a1)) (fun I7 h_I7 => ?_)
  refine Pre.b1 (Ψ := fun _ => True) Pre.an (fun v8 _ => ?_)
  refine Pre.bd (Fr.w1 (K := KC) (I0 := I0) h_I7 (fun _ => c_a1)) (fun I10 h_I10 => ?_)
  refine Pre.bd (Ψ := fun _ => True) Pre.an (fun v11 _ => ?_)
  refine Pre.b1 (Ψ := (fun (r : MI) => Fr KC I0 r)) (fr_F_X10_jot hpb _ _ _ _ _ c_x0 c_x1 h_I10) (fun I12 h_I12 => ?_)
  exact Pre.so h_I12
theorem fr_F_X10_makeCellpack {N : Nat} (hpb : pb ≤ 1) (x0 : Nat) (x1 : Nat) (I : MI) (c_x0 : CO x0) (c_x1 : CO x1) (hI : Fr KC I0 I) : Pre (F_X10_makeCellpack N x0 x1 I L (GRf pb)) (fun (r : MI) => Fr KC I0 r) := by
  rw [F_X10_makeCellpack]
  refine Pre.ite ?_ Pre.no
  refine Pre.ite ?_ Pre.no
  refine Pre.bd (Ψ := CO) (rfC hpb c_x1) (fun a1 c_a1 => ?_)
  refine Pre.bd (Fr.w1 (K := KC) (I0 := I0) hI (fun _ => c_a1)) (fun I2 h_I2 => ?_)
  refine Pre.bd (Ψ := fun _ => True) Pre.an (fun v3 _ => ?_)
  refine Pre.bd (Ψ := fun _ => True) Pre.an (fun v4 _ => ?_)
  refine Pre.bd (Fr.w1 (K := KC) (I0 := I0) h_I2 (fun _ => c_a1)) (fun I5 h_I5 => ?_)
  refine Pre.bd (Fr.w1 (K := KC) (I0 := I0) h_I5 (fun _ => c_a1)) (fun I6 h_I6 => ?_)
  refine Pre.bd (Ψ := fun _ => True) Pre.an (fun v7 _ => ?_)
  refine Pre.bd (Ψ := fun _ => True) Pre.an (fun v8 _ => ?_)
  refine Pre.bd (Fr.w1 (K := KC) (I0 := I0) h_I6 (fun _ => c_a1)) (fun I9 h_I9 => ?_)
  refine Pre.b1 (Ψ := fun _ => True) Pre.an (fun v10 _ => ?_)
  refine Pre.bd (Fr.w1 (K := KC) (I0 := I0) h_I9 (fun _ => c_a1)) (fun I12 h_I12 => ?_)
  refine Pre.bd (Ψ := fun _ => True) Pre.an (fun v13 _ => ?_)
  refine Pre.bd (Ψ := fun _ => True) Pre.an (fun v14 _ => ?_)
  refine Pre.b1 (Ψ := (fun (r : MI) => Fr KC I0 r)) (fr_F_X10_jot hpb _ _ _ _ _ c_x0 c_x1 h_I12) (fun I15 h_I15 => ?_)
  exact Pre.so h_I15
theorem fr_F_X10_makeTank (hpb : pb ≤ 1) (x0 : Nat) (x1 : Nat) (I : MI) (c_x0 : CO x0) (c_x1 : CO x1) (hI : Fr KC I0 I) : Pre (F_X10_makeTank x0 x1 I L (GRf pb)) (fun (r : MI) => Fr KC I0 r) := by
  rw [F_X10_makeTank]
  refine Pre.ite ?_ Pre.no
  refine Pre.ite ?_ Pre.no
  refine Pre.bd (Ψ := CO) (rfC hpb c_x1) (fun a1 c_a1 => ?_)
  refine Pre.bd (Ψ := fun _ => True) Pre.an (fun v2 _ => ?_)
  refine Pre.bd (Fr.w1 (K := KC) (I0 := I0) hI (fun _ => c_a1)) (fun I3 h_I3 => ?_)
  refine Pre.bd (Ψ := fun _ => True) Pre.an (fun v4 _ => ?_)
  refine Pre.bd (Fr.w1 (K := KC) (I0 := I0) h_I3 (fun _ => c_a1)) (fun I5 h_I5 => ?_)
  refine Pre.bd (Ψ := fun _ => True) Pre.an (fun v6 _ => ?_)
  refine Pre.b1 (Ψ := (fun (r : MI) => Fr KC I0 r)) (fr_F_X10_jot hpb _ _ _ _ _ c_x0 c_x1 h_I5) (fun I7 h_I7 => ?_)
  exact Pre.so h_I7
theorem fr_F_X10_makeRecorder {N : Nat} (hpb : pb ≤ 1) (x0 : Nat) (x1 : Nat) (I : MI) (c_x0 : CO x0) (c_x1 : CO x1) (hI : Fr KC I0 I) : Pre (F_X10_makeRecorder N x0 x1 I L (GRf pb)) (fun (r : MI) => Fr KC I0 r) := by
  rw [F_X10_makeRecorder]
  refine Pre.ite ?_ Pre.no
  refine Pre.ite ?_ Pre.no
  refine Pre.bd (Ψ := CO) (rfC hpb c_x1) (fun a1 c_a1 => ?_)
  refine Pre.bd (Ψ := fun _ => True) Pre.an (fun v2 _ => ?_)
  refine Pre.bd (Fr.w1 (K := KC) (I0 := I0) hI (fun _ => c_a1)) (fun I3 h_I3 => ?_)
  refine Pre.bd (Ψ := fun _ => True) Pre.an (fun v4 _ => ?_)
  refine Pre.bd (Fr.w1 (K := KC) (I0 := I0) h_I3 (fun _ => c_a1)) (fun I5 h_I5 => ?_)
  refine Pre.bd (Fr.w1 (K := KC) (I0 := I0) h_I5 (fun _ => c_a1)) (fun I6 h_I6 => ?_)
  refine Pre.b1 (Ψ := fun _ => True) Pre.an (fun v7 _ => ?_)
  refine Pre.bd (Fr.w1 (K := KC) (I0 := I0) h_I6 (fun _ => c_a1)) (fun I9 h_I9 => ?_)
  refine Pre.bd (Ψ := fun _ => True) Pre.an (fun v10 _ => ?_)
  refine Pre.bd (Ψ := fun _ => True) Pre.an (fun v11 _ => ?_)
  refine Pre.b1 (Ψ := (fun (r : MI) => Fr KC I0 r)) (fr_F_X10_jot hpb _ _ _ _ _ c_x0 c_x1 h_I9) (fun I12 h_I12 => ?_)
  exact Pre.so h_I12
theorem fr_F_X10_makeLoad {N : Nat} (hpb : pb ≤ 1) (x0 : Nat) (x1 : Nat) (I : MI) (c_x0 : CO x0) (c_x1 : CO x1) (hI : Fr KC I0 I) : Pre (F_X10_makeLoad N x0 x1 I L (GRf pb)) (fun (r : MI) => Fr KC I0 r) := by
  rw [F_X10_makeLoad]
  refine Pre.ite ?_ Pre.no
  refine Pre.ite ?_ Pre.no
  refine Pre.bd (Ψ := CO) (rfC hpb c_x1) (fun a1 c_a1 => ?_)
  refine Pre.bd (Ψ := fun _ => True) Pre.an (fun v2 _ => ?_)
  refine Pre.b2 (Ψ := (fun (r : Int32 × MI) => Fr KC I0 r.2)) (fr_F_X10_draw hpb _ _ c_x0 hI) (fun v3 I4 h_I4 => ?_)
  refine Pre.bd (Fr.w1 (K := KC) (I0 := I0) h_I4 (fun _ => c_a1)) (fun I6 h_I6 => ?_)
  refine Pre.bd (Fr.w1 (K := KC) (I0 := I0) h_I6 (fun _ => c_a1)) (fun I7 h_I7 => ?_)
  refine Pre.bd (Fr.w1 (K := KC) (I0 := I0) h_I7 (fun _ => c_a1)) (fun I8 h_I8 => ?_)
  refine Pre.b1 (Ψ := fun _ => True) Pre.an (fun v9 _ => ?_)
  refine Pre.bd (Fr.w1 (K := KC) (I0 := I0) h_I8 (fun _ => c_a1)) (fun I11 h_I11 => ?_)
  refine Pre.bd (Ψ := fun _ => True) Pre.an (fun v12 _ => ?_)
  refine Pre.wm (Fr.up (K := KC) (I0 := I0) h_I11 c_x0) (fun I13 h_I13 => ?_)
  refine Pre.bd (Ψ := fun _ => True) Pre.an (fun v14 _ => ?_)
  refine Pre.b1 (Ψ := (fun (r : MI) => Fr KC I0 r)) (fr_F_X10_jot hpb _ _ _ _ _ c_x0 c_x1 h_I13) (fun I15 h_I15 => ?_)
  exact Pre.so h_I15
theorem fr_F_X10_makeHeater {N : Nat} (hpb : pb ≤ 1) (x0 : Nat) (x1 : Nat) (I : MI) (c_x0 : CO x0) (c_x1 : CO x1) (hI : Fr KC I0 I) : Pre (F_X10_makeHeater N x0 x1 I L (GRf pb)) (fun (r : MI) => Fr KC I0 r) := by
  rw [F_X10_makeHeater]
  refine Pre.ite ?_ Pre.no
  refine Pre.ite ?_ Pre.no
  refine Pre.bd (Ψ := CO) (rfC hpb c_x1) (fun a1 c_a1 => ?_)
  refine Pre.b1 (Ψ := fun _ => True) Pre.an (fun v2 _ => ?_)
  refine Pre.bd (Fr.w1 (K := KC) (I0 := I0) hI (fun _ => c_a1)) (fun I4 h_I4 => ?_)
  refine Pre.bd (Ψ := fun _ => True) Pre.an (fun v5 _ => ?_)
  refine Pre.b1 (Ψ := (fun (r : MI) => Fr KC I0 r)) (fr_F_X10_jot hpb _ _ _ _ _ c_x0 c_x1 h_I4) (fun I6 h_I6 => ?_)
  exact Pre.so h_I6
theorem fr_F_X10_makeThermo {N : Nat} (hpb : pb ≤ 1) (x0 : Nat) (x1 : Nat) (I : MI) (c_x0 : CO x0) (c_x1 : CO x1) (hI : Fr KC I0 I) : Pre (F_X10_makeThermo N x0 x1 I L (GRf pb)) (fun (r : MI) => Fr KC I0 r) := by
  rw [F_X10_makeThermo]
  refine Pre.ite ?_ Pre.no
  refine Pre.ite ?_ Pre.no
  refine Pre.bd (Ψ := CO) (rfC hpb c_x1) (fun a1 c_a1 => ?_)
  refine Pre.bd (Ψ := fun _ => True) Pre.an (fun v2 _ => ?_)
  refine Pre.bd (Ψ := fun _ => True) Pre.an (fun v3 _ => ?_)
  refine Pre.bd (Fr.w1 (K := KC) (I0 := I0) hI (fun _ => c_a1)) (fun I4 h_I4 => ?_)
  refine Pre.bd (Fr.w1 (K := KC) (I0 := I0) h_I4 (fun _ => c_a1)) (fun I5 h_I5 => ?_)
  refine Pre.bd (Fr.w1 (K := KC) (I0 := I0) h_I5 (fun _ => c_a1)) (fun I6 h_I6 => ?_)
  refine Pre.b1 (Ψ := fun _ => True) Pre.an (fun v7 _ => ?_)
  refine Pre.b1 (Ψ := (fun (r : MI) => Fr KC I0 r)) (fr_F_X10_jot hpb _ _ _ _ _ c_x0 c_x1 h_I6) (fun I9 h_I9 => ?_)
  exact Pre.so h_I9
theorem fr_F_X10_makeSensor {N : Nat} (hpb : pb ≤ 1) (x0 : Nat) (x1 : Nat) (I : MI) (c_x0 : CO x0) (c_x1 : CO x1) (hI : Fr KC I0 I) : Pre (F_X10_makeSensor N x0 x1 I L (GRf pb)) (fun (r : MI) => Fr KC I0 r) := by
  rw [F_X10_makeSensor]
  refine Pre.ite ?_ Pre.no
  refine Pre.ite ?_ Pre.no
  refine Pre.bd (Ψ := CO) (rfC hpb c_x1) (fun a1 c_a1 => ?_)
  refine Pre.b2 (Ψ := (fun (r : Int32 × MI) => Fr KC I0 r.2)) (fr_F_X10_draw hpb _ _ c_x0 hI) (fun v2 I3 h_I3 => ?_)
  refine Pre.bd (Fr.w1 (K := KC) (I0 := I0) h_I3 (fun _ => c_a1)) (fun I5 h_I5 => ?_)
  refine Pre.b1 (Ψ := fun _ => True) Pre.an (fun v6 _ => ?_)
  refine Pre.bd (Fr.w1 (K := KC) (I0 := I0) h_I5 (fun _ => c_a1)) (fun I8 h_I8 => ?_)
  refine Pre.bd (Fr.w1 (K := KC) (I0 := I0) h_I8 (fun _ => c_a1)) (fun I9 h_I9 => ?_)
  refine Pre.bd (Fr.w1 (K := KC) (I0 := I0) h_I9 (fun _ => c_a1)) (fun I10 h_I10 => ?_)
  refine Pre.bd (Ψ := fun _ => True) Pre.an (fun v11 _ => ?_)
  refine Pre.b1 (Ψ := (fun (r : MI) => Fr KC I0 r)) (fr_F_X10_jot hpb _ _ _ _ _ c_x0 c_x1 h_I10) (fun I12 h_I12 => ?_)
  exact Pre.so h_I12
theorem fr_F_X10_makeGyro {N : Nat} (hpb : pb ≤ 1) (x0 : Nat) (x1 : Nat) (I : MI) (c_x0 : CO x0) (c_x1 : CO x1) (hI : Fr KC I0 I) : Pre (F_X10_makeGyro N x0 x1 I L (GRf pb)) (fun (r : MI) => Fr KC I0 r) := by
  rw [F_X10_makeGyro]
  refine Pre.ite ?_ Pre.no
  refine Pre.ite ?_ Pre.no
  refine Pre.bd (Ψ := CO) (rfC hpb c_x1) (fun a1 c_a1 => ?_)
  refine Pre.bd (Ψ := fun _ => True) Pre.an (fun v2 _ => ?_)
  refine Pre.bd (Fr.w1 (K := KC) (I0 := I0) hI (fun _ => c_a1)) (fun I3 h_I3 => ?_)
  refine Pre.bd (Fr.w1 (K := KC) (I0 := I0) h_I3 (fun _ => c_a1)) (fun I4 h_I4 => ?_)
  refine Pre.bd (Fr.w1 (K := KC) (I0 := I0) h_I4 (fun _ => c_a1)) (fun I5 h_I5 => ?_)
  refine Pre.b1 (Ψ := fun _ => True) Pre.an (fun v6 _ => ?_)
  refine Pre.bd (Fr.w1 (K := KC) (I0 := I0) h_I5 (fun _ => c_a1)) (fun I8 h_I8 => ?_)
  refine Pre.bd (Ψ := fun _ => True) Pre.an (fun v9 _ => ?_)
  refine Pre.b1 (Ψ := (fun (r : MI) => Fr KC I0 r)) (fr_F_X10_jot hpb _ _ _ _ _ c_x0 c_x1 h_I8) (fun I10 h_I10 => ?_)
  exact Pre.so h_I10
theorem fr_F_X10_makeFinegyro {N : Nat} (hpb : pb ≤ 1) (x0 : Nat) (x1 : Nat) (I : MI) (c_x0 : CO x0) (c_x1 : CO x1) (hI : Fr KC I0 I) : Pre (F_X10_makeFinegyro N x0 x1 I L (GRf pb)) (fun (r : MI) => Fr KC I0 r) := by
  rw [F_X10_makeFinegyro]
  refine Pre.ite ?_ Pre.no
  refine Pre.ite ?_ Pre.no
  refine Pre.bd (Ψ := CO) (rfC hpb c_x1) (fun a1 c_a1 => ?_)
  refine Pre.bd (Ψ := fun _ => True) Pre.an (fun v2 _ => ?_)
  refine Pre.bd (Fr.w1 (K := KC) (I0 := I0) hI (fun _ => c_a1)) (fun I3 h_I3 => ?_)
  refine Pre.b2 (Ψ := (fun (r : Int32 × MI) => Fr KC I0 r.2)) (fr_F_X10_draw hpb _ _ c_x0 h_I3) (fun v4 I5 h_I5 => ?_)
  refine Pre.bd (Fr.w1 (K := KC) (I0 := I0) h_I5 (fun _ => c_a1)) (fun I7 h_I7 => ?_)
  refine Pre.bd (Fr.w1 (K := KC) (I0 := I0) h_I7 (fun _ => c_a1)) (fun I8 h_I8 => ?_)
  refine Pre.b1 (Ψ := fun _ => True) Pre.an (fun v9 _ => ?_)
  refine Pre.bd (Fr.w1 (K := KC) (I0 := I0) h_I8 (fun _ => c_a1)) (fun I11 h_I11 => ?_)
  refine Pre.bd (Ψ := fun _ => True) Pre.an (fun v12 _ => ?_)
  refine Pre.b1 (Ψ := (fun (r : MI) => Fr KC I0 r)) (fr_F_X10_jot hpb _ _ _ _ _ c_x0 c_x1 h_I11) (fun I13 h_I13 => ?_)
  exact Pre.so h_I13
theorem fr_F_X10_makeSuneye (hpb : pb ≤ 1) (x0 : Nat) (x1 : Nat) (I : MI) (c_x0 : CO x0) (c_x1 : CO x1) (hI : Fr KC I0 I) : Pre (F_X10_makeSuneye x0 x1 I L (GRf pb)) (fun (r : MI) => Fr KC I0 r) := by
  rw [F_X10_makeSuneye]
  refine Pre.ite ?_ Pre.no
  refine Pre.ite ?_ Pre.no
  refine Pre.bd (Ψ := CO) (rfC hpb c_x1) (fun a1 c_a1 => ?_)
  refine Pre.bd (Ψ := fun _ => True) Pre.an (fun v2 _ => ?_)
  refine Pre.bd (Fr.w1 (K := KC) (I0 := I0) hI (fun _ => c_a1)) (fun I3 h_I3 => ?_)
  refine Pre.bd (Ψ := fun _ => True) Pre.an (fun v4 _ => ?_)
  refine Pre.b1 (Ψ := (fun (r : MI) => Fr KC I0 r)) (fr_F_X10_jot hpb _ _ _ _ _ c_x0 c_x1 h_I3) (fun I5 h_I5 => ?_)
  exact Pre.so h_I5
theorem fr_F_X10_makeProbe (hpb : pb ≤ 1) (x0 : Nat) (x1 : Nat) (I : MI) (c_x0 : CO x0) (c_x1 : CO x1) (hI : Fr KC I0 I) : Pre (F_X10_makeProbe x0 x1 I L (GRf pb)) (fun (r : MI) => Fr KC I0 r) := by
  rw [F_X10_makeProbe]
  refine Pre.ite ?_ Pre.no
  refine Pre.ite ?_ Pre.no
  refine Pre.bd (Ψ := CO) (rfC hpb c_x1) (fun a1 c_a1 => ?_)
  refine Pre.bd (Ψ := fun _ => True) Pre.an (fun v2 _ => ?_)
  refine Pre.bd (Fr.w1 (K := KC) (I0 := I0) hI (fun _ => c_a1)) (fun I3 h_I3 => ?_)
  refine Pre.bd (Fr.w1 (K := KC) (I0 := I0) h_I3 (fun _ => c_a1)) (fun I4 h_I4 => ?_)
  refine Pre.bd (Ψ := fun _ => True) Pre.an (fun v5 _ => ?_)
  refine Pre.b1 (Ψ := (fun (r : MI) => Fr KC I0 r)) (fr_F_X10_jot hpb _ _ _ _ _ c_x0 c_x1 h_I4) (fun I6 h_I6 => ?_)
  exact Pre.so h_I6
theorem fr_F_X10_makeCamera (hpb : pb ≤ 1) (x0 : Nat) (x1 : Nat) (I : MI) (c_x0 : CO x0) (c_x1 : CO x1) (hI : Fr KC I0 I) : Pre (F_X10_makeCamera x0 x1 I L (GRf pb)) (fun (r : MI) => Fr KC I0 r) := by
  rw [F_X10_makeCamera]
  refine Pre.ite ?_ Pre.no
  refine Pre.ite ?_ Pre.no
  refine Pre.bd (Ψ := CO) (rfC hpb c_x1) (fun a1 c_a1 => ?_)
  refine Pre.bd (Ψ := fun _ => True) Pre.an (fun v2 _ => ?_)
  refine Pre.b2 (Ψ := (fun (r : Int32 × MI) => Fr KC I0 r.2)) (fr_F_X10_draw hpb _ _ c_x0 hI) (fun v3 I4 h_I4 => ?_)
  refine Pre.bd (Fr.w1 (K := KC) (I0 := I0) h_I4 (fun _ => c_a1)) (fun I6 h_I6 => ?_)
  refine Pre.bd (Fr.w1 (K := KC) (I0 := I0) h_I6 (fun _ => c_a1)) (fun I7 h_I7 => ?_)
  refine Pre.bd (Fr.w1 (K := KC) (I0 := I0) h_I7 (fun _ => c_a1)) (fun I8 h_I8 => ?_)
  refine Pre.bd (Ψ := fun _ => True) Pre.an (fun v9 _ => ?_)
  refine Pre.b1 (Ψ := (fun (r : MI) => Fr KC I0 r)) (fr_F_X10_jot hpb _ _ _ _ _ c_x0 c_x1 h_I8) (fun I10 h_I10 => ?_)
  exact Pre.so h_I10
theorem fr_F_X10_makeActuator {N : Nat} (hpb : pb ≤ 1) (x0 : Nat) (x1 : Nat) (I : MI) (c_x0 : CO x0) (c_x1 : CO x1) (hI : Fr KC I0 I) : Pre (F_X10_makeActuator N x0 x1 I L (GRf pb)) (fun (r : MI) => Fr KC I0 r) := by
  rw [F_X10_makeActuator]
  refine Pre.ite ?_ Pre.no
  refine Pre.ite ?_ Pre.no
  refine Pre.bd (Ψ := CO) (rfC hpb c_x1) (fun a1 c_a1 => ?_)
  refine Pre.b1 (Ψ := fun _ => True) Pre.an (fun v2 _ => ?_)
  refine Pre.bd (Fr.w1 (K := KC) (I0 := I0) hI (fun _ => c_a1)) (fun I4 h_I4 => ?_)
  refine Pre.bd (Fr.w1 (K := KC) (I0 := I0) h_I4 (fun _ => c_a1)) (fun I5 h_I5 => ?_)
  refine Pre.b1 (Ψ := fun _ => True) Pre.an (fun v6 _ => ?_)
  refine Pre.bd (Fr.w1 (K := KC) (I0 := I0) h_I5 (fun _ => c_a1)) (fun I8 h_I8 => ?_)
  refine Pre.bd (Ψ := fun _ => True) Pre.an (fun v9 _ => ?_)
  refine Pre.bd (Ψ := fun _ => True) Pre.an (fun v10 _ => ?_)
  refine Pre.b1 (Ψ := (fun (r : MI) => Fr KC I0 r)) (fr_F_X10_jot hpb _ _ _ _ _ c_x0 c_x1 h_I8) (fun I11 h_I11 => ?_)
  exact Pre.so h_I11
theorem fr_F_X10_makeWheel (hpb : pb ≤ 1) (x0 : Nat) (x1 : Nat) (I : MI) (c_x0 : CO x0) (c_x1 : CO x1) (hI : Fr KC I0 I) : Pre (F_X10_makeWheel x0 x1 I L (GRf pb)) (fun (r : MI) => Fr KC I0 r) := by
  rw [F_X10_makeWheel]
  refine Pre.ite ?_ Pre.no
  refine Pre.ite ?_ Pre.no
  refine Pre.bd (Ψ := CO) (rfC hpb c_x1) (fun a1 c_a1 => ?_)
  refine Pre.bd (Ψ := fun _ => True) Pre.an (fun v2 _ => ?_)
  refine Pre.bd (Fr.w1 (K := KC) (I0 := I0) hI (fun _ => c_a1)) (fun I3 h_I3 => ?_)
  refine Pre.bd (Fr.w1 (K := KC) (I0 := I0) h_I3 (fun _ => c_a1)) (fun I4 h_I4 => ?_)
  refine Pre.bd (Ψ := fun _ => True) Pre.an (fun v5 _ => ?_)
  refine Pre.bd (Ψ := fun _ => True) Pre.an (fun v6 _ => ?_)
  refine Pre.b1 (Ψ := (fun (r : MI) => Fr KC I0 r)) (fr_F_X10_jot hpb _ _ _ _ _ c_x0 c_x1 h_I4) (fun I7 h_I7 => ?_)
  exact Pre.so h_I7
theorem fr_F_X10_makeCoil {N : Nat} (hpb : pb ≤ 1) (x0 : Nat) (x1 : Nat) (I : MI) (c_x0 : CO x0) (c_x1 : CO x1) (hI : Fr KC I0 I) : Pre (F_X10_makeCoil N x0 x1 I L (GRf pb)) (fun (r : MI) => Fr KC I0 r) := by
  rw [F_X10_makeCoil]
  refine Pre.ite ?_ Pre.no
  refine Pre.ite ?_ Pre.no
  refine Pre.bd (Ψ := CO) (rfC hpb c_x1) (fun a1 c_a1 => ?_)
  refine Pre.bd (Ψ := fun _ => True) Pre.an (fun v2 _ => ?_)
  refine Pre.bd (Fr.w1 (K := KC) (I0 := I0) hI (fun _ => c_a1)) (fun I3 h_I3 => ?_)
  refine Pre.b1 (Ψ := fun _ => True) Pre.an (fun v4 _ => ?_)
  refine Pre.bd (Fr.w1 (K := KC) (I0 := I0) h_I3 (fun _ => c_a1)) (fun I6 h_I6 => ?_)
  refine Pre.bd (Ψ := fun _ => True) Pre.an (fun v7 _ => ?_)
  refine Pre.b1 (Ψ := (fun (r : MI) => Fr KC I0 r)) (fr_F_X10_jot hpb _ _ _ _ _ c_x0 c_x1 h_I6) (fun I8 h_I8 => ?_)
  exact Pre.so h_I8
theorem fr_F_X10_makeJet {N : Nat} (hpb : pb ≤ 1) (x0 : Nat) (x1 : Nat) (I : MI) (c_x0 : CO x0) (c_x1 : CO x1) (hI : Fr KC I0 I) : Pre (F_X10_makeJet N x0 x1 I L (GRf pb)) (fun (r : MI) => Fr KC I0 r) := by
  rw [F_X10_makeJet]
  refine Pre.ite ?_ Pre.no
  refine Pre.ite ?_ Pre.no
  refine Pre.bd (Ψ := CO) (rfC hpb c_x1) (fun a1 c_a1 => ?_)
  refine Pre.b2 (Ψ := (fun (r : Int32 × MI) => Fr KC I0 r.2)) (fr_F_X10_draw hpb _ _ c_x0 hI) (fun v2 I3 h_I3 => ?_)
  refine Pre.bd (Fr.w1 (K := KC) (I0 := I0) h_I3 (fun _ => c_a1)) (fun I5 h_I5 => ?_)
  refine Pre.bd (Fr.w1 (K := KC) (I0 := I0) h_I5 (fun _ => c_a1)) (fun I6 h_I6 => ?_)
  refine Pre.bd (Fr.w1 (K := KC) (I0 := I0) h_I6 (fun _ => c_a1)) (fun I7 h_I7 => ?_)
  refine Pre.b1 (Ψ := fun _ => True) Pre.an (fun v8 _ => ?_)
  refine Pre.b1 (Ψ := (fun (r : MI) => Fr KC I0 r)) (fr_F_X10_jot hpb _ _ _ _ _ c_x0 c_x1 h_I7) (fun I10 h_I10 => ?_)
  exact Pre.so h_I10
theorem fr_F_X10_makePulser {N : Nat} (hpb : pb ≤ 1) (x0 : Nat) (x1 : Nat) (I : MI) (c_x0 : CO x0) (c_x1 : CO x1) (hI : Fr KC I0 I) : Pre (F_X10_makePulser N x0 x1 I L (GRf pb)) (fun (r : MI) => Fr KC I0 r) := by
  rw [F_X10_makePulser]
  refine Pre.ite ?_ Pre.no
  refine Pre.ite ?_ Pre.no
  refine Pre.bd (Ψ := CO) (rfC hpb c_x1) (fun a1 c_a1 => ?_)
  refine Pre.bd (Ψ := fun _ => True) Pre.an (fun v2 _ => ?_)
  refine Pre.bd (Fr.w1 (K := KC) (I0 := I0) hI (fun _ => c_a1)) (fun I3 h_I3 => ?_)
  refine Pre.b1 (Ψ := fun _ => True) Pre.an (fun v4 _ => ?_)
  refine Pre.bd (Fr.w1 (K := KC) (I0 := I0) h_I3 (fun _ => c_a1)) (fun I6 h_I6 => ?_)
  refine Pre.bd (Ψ := fun _ => True) Pre.an (fun v7 _ => ?_)
  refine Pre.b1 (Ψ := (fun (r : MI) => Fr KC I0 r)) (fr_F_X10_jot hpb _ _ _ _ _ c_x0 c_x1 h_I6) (fun I8 h_I8 => ?_)
  exact Pre.so h_I8
theorem fr_F_X10_makeRadio (hpb : pb ≤ 1) (x0 : Nat) (x1 : Nat) (I : MI) (c_x0 : CO x0) (c_x1 : CO x1) (hI : Fr KC I0 I) : Pre (F_X10_makeRadio x0 x1 I L (GRf pb)) (fun (r : MI) => Fr KC I0 r) := by
  rw [F_X10_makeRadio]
  refine Pre.ite ?_ Pre.no
  refine Pre.ite ?_ Pre.no
  refine Pre.bd (Ψ := CO) (rfC hpb c_x1) (fun a1 c_a1 => ?_)
  refine Pre.bd (Ψ := fun _ => True) Pre.an (fun v2 _ => ?_)
  refine Pre.bd (Fr.w1 (K := KC) (I0 := I0) hI (fun _ => c_a1)) (fun I3 h_I3 => ?_)
  refine Pre.bd (Fr.w1 (K := KC) (I0 := I0) h_I3 (fun _ => c_a1)) (fun I4 h_I4 => ?_)
  refine Pre.bd (Fr.w1 (K := KC) (I0 := I0) h_I4 (fun _ => c_a1)) (fun I5 h_I5 => ?_)
  refine Pre.bd (Ψ := fun _ => True) Pre.an (fun v6 _ => ?_)
  refine Pre.b1 (Ψ := (fun (r : MI) => Fr KC I0 r)) (fr_F_X10_jot hpb _ _ _ _ _ c_x0 c_x1 h_I5) (fun I7 h_I7 => ?_)
  exact Pre.so h_I7
theorem fr_F_X10_makeBeacon (hpb : pb ≤ 1) (x0 : Nat) (x1 : Nat) (I : MI) (c_x0 : CO x0) (c_x1 : CO x1) (hI : Fr KC I0 I) : Pre (F_X10_makeBeacon x0 x1 I L (GRf pb)) (fun (r : MI) => Fr KC I0 r) := by
  rw [F_X10_makeBeacon]
  refine Pre.ite ?_ Pre.no
  refine Pre.ite ?_ Pre.no
  refine Pre.bd (Ψ := CO) (rfC hpb c_x1) (fun a1 c_a1 => ?_)
  refine Pre.bd (Ψ := fun _ => True) Pre.an (fun v2 _ => ?_)
  refine Pre.bd (Fr.w1 (K := KC) (I0 := I0) hI (fun _ => c_a1)) (fun I3 h_I3 => ?_)
  refine Pre.bd (Ψ := fun _ => True) Pre.an (fun v4 _ => ?_)
  refine Pre.bd (Fr.w1 (K := KC) (I0 := I0) h_I3 (fun _ => c_a1)) (fun I5 h_I5 => ?_)
  refine Pre.bd (Ψ := fun _ => True) Pre.an (fun v6 _ => ?_)
  refine Pre.b1 (Ψ := (fun (r : MI) => Fr KC I0 r)) (fr_F_X10_jot hpb _ _ _ _ _ c_x0 c_x1 h_I5) (fun I7 h_I7 => ?_)
  exact Pre.so h_I7
theorem fr_F_X10_makeSource {N : Nat} (hpb : pb ≤ 1) (x0 : Nat) (x1 : Nat) (I : MI) (c_x0 : CO x0) (c_x1 : CO x1) (hI : Fr KC I0 I) : Pre (F_X10_makeSource N x0 x1 I L (GRf pb)) (fun (r : MI) => Fr KC I0 r) := by
  rw [F_X10_makeSource]
  refine Pre.ite ?_ Pre.no
  refine Pre.ite ?_ Pre.no
  refine Pre.bd (Ψ := CO) (rfC hpb c_x1) (fun a1 c_a1 => ?_)
  refine Pre.b2 (Ψ := (fun (r : Int32 × MI) => Fr KC I0 r.2)) (fr_F_X10_draw hpb _ _ c_x0 hI) (fun v2 I3 h_I3 => ?_)
  refine Pre.bd (Fr.w1 (K := KC) (I0 := I0) h_I3 (fun _ => c_a1)) (fun I5 h_I5 => ?_)
  refine Pre.bd (Fr.w1 (K := KC) (I0 := I0) h_I5 (fun _ => c_a1)) (fun I6 h_I6 => ?_)
  refine Pre.b1 (Ψ := fun _ => True) Pre.an (fun v7 _ => ?_)
  refine Pre.b1 (Ψ := (fun (r : MI) => Fr KC I0 r)) (fr_F_X10_jot hpb _ _ _ _ _ c_x0 c_x1 h_I6) (fun I9 h_I9 => ?_)
  exact Pre.so h_I9
theorem fr_F_X10_makePanel (hpb : pb ≤ 1) (x0 : Nat) (x1 : Nat) (I : MI) (c_x0 : CO x0) (c_x1 : CO x1) (hI : Fr KC I0 I) : Pre (F_X10_makePanel x0 x1 I L (GRf pb)) (fun (r : MI) => Fr KC I0 r) := by
  rw [F_X10_makePanel]
  refine Pre.ite ?_ Pre.no
  refine Pre.ite ?_ Pre.no
  refine Pre.bd (Ψ := CO) (rfC hpb c_x1) (fun a1 c_a1 => ?_)
  refine Pre.bd (Ψ := fun _ => True) Pre.an (fun v2 _ => ?_)
  refine Pre.bd (Fr.w1 (K := KC) (I0 := I0) hI (fun _ => c_a1)) (fun I3 h_I3 => ?_)
  refine Pre.bd (Fr.w1 (K := KC) (I0 := I0) h_I3 (fun _ => c_a1)) (fun I4 h_I4 => ?_)
  refine Pre.bd (Ψ := fun _ => True) Pre.an (fun v5 _ => ?_)
  refine Pre.bd (Ψ := fun _ => True) Pre.an (fun v6 _ => ?_)
  refine Pre.b1 (Ψ := (fun (r : MI) => Fr KC I0 r)) (fr_F_X10_jot hpb _ _ _ _ _ c_x0 c_x1 h_I4) (fun I7 h_I7 => ?_)
  exact Pre.so h_I7
theorem fr_F_X10_makeTracker (hpb : pb ≤ 1) (x0 : Nat) (x1 : Nat) (I : MI) (c_x0 : CO x0) (c_x1 : CO x1) (hI : Fr KC I0 I) : Pre (F_X10_makeTracker x0 x1 I L (GRf pb)) (fun (r : MI) => Fr KC I0 r) := by
  rw [F_X10_makeTracker]
  refine Pre.ite ?_ Pre.no
  refine Pre.ite ?_ Pre.no
  refine Pre.bd (Ψ := CO) (rfC hpb c_x1) (fun a1 c_a1 => ?_)
  refine Pre.bd (Ψ := fun _ => True) Pre.an (fun v2 _ => ?_)
  refine Pre.bd (Ψ := fun _ => True) Pre.an (fun v3 _ => ?_)
  refine Pre.bd (Fr.w1 (K := KC) (I0 := I0) hI (fun _ => c_a1)) (fun I4 h_I4 => ?_)
  refine Pre.bd (Ψ := fun _ => True) Pre.an (fun v5 _ => ?_)
  refine Pre.b1 (Ψ := (fun (r : MI) => Fr KC I0 r)) (fr_F_X10_jot hpb _ _ _ _ _ c_x0 c_x1 h_I4) (fun I6 h_I6 => ?_)
  exact Pre.so h_I6
theorem fr_F_X10_makeGenerator (hpb : pb ≤ 1) (x0 : Nat) (x1 : Nat) (I : MI) (c_x0 : CO x0) (c_x1 : CO x1) (hI : Fr KC I0 I) : Pre (F_X10_makeGenerator x0 x1 I L (GRf pb)) (fun (r : MI) => Fr KC I0 r) := by
  rw [F_X10_makeGenerator]
  refine Pre.ite ?_ Pre.no
  refine Pre.ite ?_ Pre.no
  refine Pre.bd (Ψ := CO) (rfC hpb c_x1) (fun a1 c_a1 => ?_)
  refine Pre.bd (Ψ := fun _ => True) Pre.an (fun v2 _ => ?_)
  refine Pre.bd (Ψ := fun _ => True) Pre.an (fun v3 _ => ?_)
  refine Pre.bd (Fr.w1 (K := KC) (I0 := I0) hI (fun _ => c_a1)) (fun I4 h_I4 => ?_)
  refine Pre.bd (Fr.w1 (K := KC) (I0 := I0) h_I4 (fun _ => c_a1)) (fun I5 h_I5 => ?_)
  refine Pre.bd (Ψ := fun _ => True) Pre.an (fun v6 _ => ?_)
  refine Pre.b1 (Ψ := (fun (r : MI) => Fr KC I0 r)) (fr_F_X10_jot hpb _ _ _ _ _ c_x0 c_x1 h_I5) (fun I7 h_I7 => ?_)
  exact Pre.so h_I7
theorem fr_F_X10_makeLink {N : Nat} (hpb : pb ≤ 1) (x0 : Nat) (x1 : Nat) (I : MI) (c_x0 : CO x0) (c_x1 : CO x1) (hI : Fr KC I0 I) : Pre (F_X10_makeLink N x0 x1 I L (GRf pb)) (fun (r : MI) => Fr KC I0 r) := by
  rw [F_X10_makeLink]
  refine Pre.ite ?_ Pre.no
  refine Pre.ite ?_ Pre.no
  refine Pre.bd (Ψ := CO) (rfC hpb c_x1) (fun a1 c_a1 => ?_)
  refine Pre.b1 (Ψ := fun _ => True) Pre.an (fun v2 _ => ?_)
  refine Pre.b2 (Ψ := (fun (r : Int32 × MI) => Fr KC I0 r.2)) (fr_F_X10_draw hpb _ _ c_x0 hI) (fun v4 I5 h_I5 => ?_)
  refine Pre.bd (Fr.w1 (K := KC) (I0 := I0) h_I5 (fun _ => c_a1)) (fun I7 h_I7 => ?_)
  refine Pre.bd (Fr.w1 (K := KC) (I0 := I0) h_I7 (fun _ => c_a1)) (fun I8 h_I8 => ?_)
  refine Pre.bd (Fr.w1 (K := KC) (I0 := I0) h_I8 (fun _ => c_a1)) (fun I9 h_I9 => ?_)
  refine Pre.bd (Ψ := fun _ => True) Pre.an (fun v10 _ => ?_)
  refine Pre.b1 (Ψ := (fun (r : MI) => Fr KC I0 r)) (fr_F_X10_jot hpb _ _ _ _ _ c_x0 c_x1 h_I9) (fun I11 h_I11 => ?_)
  exact Pre.so h_I11
theorem fr_F_X10_makePipe (hpb : pb ≤ 1) (x0 : Nat) (x1 : Nat) (I : MI) (c_x0 : CO x0) (c_x1 : CO x1) (hI : Fr KC I0 I) : Pre (F_X10_makePipe x0 x1 I L (GRf pb)) (fun (r : MI) => Fr KC I0 r) := by
  rw [F_X10_makePipe]
  refine Pre.ite ?_ Pre.no
  refine Pre.ite ?_ Pre.no
  refine Pre.bd (Ψ := CO) (rfC hpb c_x1) (fun a1 c_a1 => ?_)
  refine Pre.bd (Ψ := fun _ => True) Pre.an (fun v2 _ => ?_)
  refine Pre.bd (Fr.w1 (K := KC) (I0 := I0) hI (fun _ => c_a1)) (fun I3 h_I3 => ?_)
  refine Pre.bd (Ψ := fun _ => True) Pre.an (fun v4 _ => ?_)
  refine Pre.b1 (Ψ := (fun (r : MI) => Fr KC I0 r)) (fr_F_X10_jot hpb _ _ _ _ _ c_x0 c_x1 h_I3) (fun I5 h_I5 => ?_)
  exact Pre.so h_I5
theorem fr_F_X10_makeHose (hpb : pb ≤ 1) (x0 : Nat) (x1 : Nat) (I : MI) (c_x0 : CO x0) (c_x1 : CO x1) (hI : Fr KC I0 I) : Pre (F_X10_makeHose x0 x1 I L (GRf pb)) (fun (r : MI) => Fr KC I0 r) := by
  rw [F_X10_makeHose]
  refine Pre.ite ?_ Pre.no
  refine Pre.ite ?_ Pre.no
  refine Pre.bd (Ψ := CO) (rfC hpb c_x1) (fun a1 c_a1 => ?_)
  refine Pre.bd (Ψ := fun _ => True) Pre.an (fun v2 _ => ?_)
  refine Pre.bd (Fr.w1 (K := KC) (I0 := I0) hI (fun _ => c_a1)) (fun I3 h_I3 => ?_)
  refine Pre.bd (Ψ := fun _ => True) Pre.an (fun v4 _ => ?_)
  refine Pre.bd (Fr.w1 (K := KC) (I0 := I0) h_I3 (fun _ => c_a1)) (fun I5 h_I5 => ?_)
  refine Pre.bd (Ψ := fun _ => True) Pre.an (fun v6 _ => ?_)
  refine Pre.bd (Ψ := fun _ => True) Pre.an (fun v7 _ => ?_)
  refine Pre.b1 (Ψ := (fun (r : MI) => Fr KC I0 r)) (fr_F_X10_jot hpb _ _ _ _ _ c_x0 c_x1 h_I5) (fun I8 h_I8 => ?_)
  exact Pre.so h_I8
theorem fr_LF_X10_make_7 {N : Nat} (hpb : pb ≤ 1) : ∀ (k : Nat) (y0 : Nat) (y1 : Nat) (y3 : Int32) (I : MI) {L : ML}, CO y0 → CO y1 → Fr KC I0 I → Pre (LF_X10_make_7 N k y0 y1 y3 I L (GRf pb)) (fun (r : MI) => Fr KC I0 r) := by
  intro k
  induction k with
  | zero =>
    intro y0 y1 y3 I L c_y0 c_y1 hI r hr
    rw [LF_X10_make_7] at hr
    cases hr
  | succ k ih =>
    intro y0 y1 y3 I L c_y0 c_y1 hI
    rw [LF_X10_make_7]
    refine Pre.ite ?_ ?_
    ·
      exact Pre.so hI
    ·
      refine Pre.bd (Ψ := CO) (rfC hpb c_y1) (fun a4 c_a4 => ?_)
      refine Pre.ite ?_ ?_
      ·
        exact Pre.so hI
      ·
        refine Pre.bd (Ψ := fun _ => True) Pre.an (fun v6 _ => ?_)
        refine Pre.b1 (Ψ := (fun (r : MI) => Fr KC I0 r)) ?_ (fun I7 h_I7 => ?_)
        ·
          refine Pre.ite ?_ ?_
          ·
            refine Pre.b1 (Ψ := (fun (r : MI) => Fr KC I0 r)) (fr_F_X10_makeUnit hpb _ _ _ c_y0 c_y1 hI) (fun I12 h_I12 => ?_)
            exact Pre.so h_I12
          ·
            refine Pre.ite ?_ ?_
            ·
              refine Pre.b1 (Ψ := (fun (r : MI) => Fr KC I0 r)) (fr_F_X10_makeStore hpb _ _ _ c_y0 c_y1 hI) (fun I15 h_I15 => ?_)
              exact Pre.so h_I15
            ·
              refine Pre.ite ?_ ?_
              ·
                refine Pre.b1 (Ψ := (fun (r : MI) => Fr KC I0 r)) (fr_F_X10_makeBattery hpb _ _ _ c_y0 c_y1 hI) (fun I18 h_I18 => ?_)
                exact Pre.so h_I18
              ·
                refine Pre.ite ?_ ?_
                ·
                  refine Pre.b1 (Ψ := (fun (r : MI) => Fr KC I0 r)) (fr_F_X10_makeCellpack hpb _ _ _ c_y0 c_y1 hI) (fun I21 h_I21 => ?_)
                  exact Pre.so h_I21
                ·
                  refine Pre.ite ?_ ?_
                  ·
                    refine Pre.b1 (Ψ := (fun (r : MI) => Fr KC I0 r)) (fr_F_X10_makeTank hpb _ _ _ c_y0 c_y1 hI) (fun I24 h_I24 => ?_)
                    exact Pre.so h_I24
                  ·
                    refine Pre.ite ?_ ?_
                    ·
                      refine Pre.b1 (Ψ := (fun (r : MI) => Fr KC I0 r)) (fr_F_X10_makeRecorder hpb _ _ _ c_y0 c_y1 hI) (fun I27 h_I27 => ?_)
                      exact Pre.so h_I27
                    ·
                      refine Pre.ite ?_ ?_
                      ·
                        refine Pre.b1 (Ψ := (fun (r : MI) => Fr KC I0 r)) (fr_F_X10_makeLoad hpb _ _ _ c_y0 c_y1 hI) (fun I30 h_I30 => ?_)
                        exact Pre.so h_I30
                      ·
                        refine Pre.ite ?_ ?_
                        ·
                          refine Pre.b1 (Ψ := (fun (r : MI) => Fr KC I0 r)) (fr_F_X10_makeHeater hpb _ _ _ c_y0 c_y1 hI) (fun I33 h_I33 => ?_)
                          exact Pre.so h_I33
                        ·
                          refine Pre.ite ?_ ?_
                          ·
                            refine Pre.b1 (Ψ := (fun (r : MI) => Fr KC I0 r)) (fr_F_X10_makeThermo hpb _ _ _ c_y0 c_y1 hI) (fun I36 h_I36 => ?_)
                            exact Pre.so h_I36
                          ·
                            refine Pre.ite ?_ ?_
                            ·
                              refine Pre.b1 (Ψ := (fun (r : MI) => Fr KC I0 r)) (fr_F_X10_makeSensor hpb _ _ _ c_y0 c_y1 hI) (fun I39 h_I39 => ?_)
                              exact Pre.so h_I39
                            ·
                              refine Pre.ite ?_ ?_
                              ·
                                refine Pre.b1 (Ψ := (fun (r : MI) => Fr KC I0 r)) (fr_F_X10_makeGyro hpb _ _ _ c_y0 c_y1 hI) (fun I42 h_I42 => ?_)
                                exact Pre.so h_I42
                              ·
                                refine Pre.ite ?_ ?_
                                ·
                                  refine Pre.b1 (Ψ := (fun (r : MI) => Fr KC I0 r)) (fr_F_X10_makeFinegyro hpb _ _ _ c_y0 c_y1 hI) (fun I45 h_I45 => ?_)
                                  exact Pre.so h_I45
                                ·
                                  refine Pre.ite ?_ ?_
                                  ·
                                    refine Pre.b1 (Ψ := (fun (r : MI) => Fr KC I0 r)) (fr_F_X10_makeSuneye hpb _ _ _ c_y0 c_y1 hI) (fun I48 h_I48 => ?_)
                                    exact Pre.so h_I48
                                  ·
                                    refine Pre.ite ?_ ?_
                                    ·
                                      refine Pre.b1 (Ψ := (fun (r : MI) => Fr KC I0 r)) (fr_F_X10_makeProbe hpb _ _ _ c_y0 c_y1 hI) (fun I51 h_I51 => ?_)
                                      exact Pre.so h_I51
                                    ·
                                      refine Pre.ite ?_ ?_
                                      ·
                                        refine Pre.b1 (Ψ := (fun (r : MI) => Fr KC I0 r)) (fr_F_X10_makeCamera hpb _ _ _ c_y0 c_y1 hI) (fun I54 h_I54 => ?_)
                                        exact Pre.so h_I54
                                      ·
                                        refine Pre.ite ?_ ?_
                                        ·
                                          refine Pre.b1 (Ψ := (fun (r : MI) => Fr KC I0 r)) (fr_F_X10_makeActuator hpb _ _ _ c_y0 c_y1 hI) (fun I57 h_I57 => ?_)
                                          exact Pre.so h_I57
                                        ·
                                          refine Pre.ite ?_ ?_
                                          ·
                                            refine Pre.b1 (Ψ := (fun (r : MI) => Fr KC I0 r)) (fr_F_X10_makeWheel hpb _ _ _ c_y0 c_y1 hI) (fun I60 h_I60 => ?_)
                                            exact Pre.so h_I60
                                          ·
                                            refine Pre.ite ?_ ?_
                                            ·
                                              refine Pre.b1 (Ψ := (fun (r : MI) => Fr KC I0 r)) (fr_F_X10_makeCoil hpb _ _ _ c_y0 c_y1 hI) (fun I63 h_I63 => ?_)
                                              exact Pre.so h_I63
                                            ·
                                              refine Pre.ite ?_ ?_
                                              ·
                                                refine Pre.b1 (Ψ := (fun (r : MI) => Fr KC I0 r)) (fr_F_X10_makeJet hpb _ _ _ c_y0 c_y1 hI) (fun I66 h_I66 => ?_)
                                                exact Pre.so h_I66
                                              ·
                                                refine Pre.ite ?_ ?_
                                                ·
                                                  refine Pre.b1 (Ψ := (fun (r : MI) => Fr KC I0 r)) (fr_F_X10_makePulser hpb _ _ _ c_y0 c_y1 hI) (fun I69 h_I69 => ?_)
                                                  exact Pre.so h_I69
                                                ·
                                                  refine Pre.ite ?_ ?_
                                                  ·
                                                    refine Pre.b1 (Ψ := (fun (r : MI) => Fr KC I0 r)) (fr_F_X10_makeRadio hpb _ _ _ c_y0 c_y1 hI) (fun I72 h_I72 => ?_)
                                                    exact Pre.so h_I72
                                                  ·
                                                    refine Pre.ite ?_ ?_
                                                    ·
                                                      refine Pre.b1 (Ψ := (fun (r : MI) => Fr KC I0 r)) (fr_F_X10_makeBeacon hpb _ _ _ c_y0 c_y1 hI) (fun I75 h_I75 => ?_)
                                                      exact Pre.so h_I75
                                                    ·
                                                      refine Pre.ite ?_ ?_
                                                      ·
                                                        refine Pre.b1 (Ψ := (fun (r : MI) => Fr KC I0 r)) (fr_F_X10_makeSource hpb _ _ _ c_y0 c_y1 hI) (fun I78 h_I78 => ?_)
                                                        exact Pre.so h_I78
                                                      ·
                                                        refine Pre.ite ?_ ?_
                                                        ·
                                                          refine Pre.b1 (Ψ := (fun (r : MI) => Fr KC I0 r)) (fr_F_X10_makePanel hpb _ _ _ c_y0 c_y1 hI) (fun I81 h_I81 => ?_)
                                                          exact Pre.so h_I81
                                                        ·
                                                          refine Pre.ite ?_ ?_
                                                          ·
                                                            refine Pre.b1 (Ψ := (fun (r : MI) => Fr KC I0 r)) (fr_F_X10_makeTracker hpb _ _ _ c_y0 c_y1 hI) (fun I84 h_I84 => ?_)
                                                            exact Pre.so h_I84
                                                          ·
                                                            refine Pre.ite ?_ ?_
                                                            ·
                                                              refine Pre.b1 (Ψ := (fun (r : MI) => Fr KC I0 r)) (fr_F_X10_makeGenerator hpb _ _ _ c_y0 c_y1 hI) (fun I87 h_I87 => ?_)
                                                              exact Pre.so h_I87
                                                            ·
                                                              refine Pre.ite ?_ ?_
                                                              ·
                                                                refine Pre.b1 (Ψ := (fun (r : MI) => Fr KC I0 r)) (fr_F_X10_makeLink hpb _ _ _ c_y0 c_y1 hI) (fun I90 h_I90 => ?_)
                                                                exact Pre.so h_I90
                                                              ·
                                                                refine Pre.ite ?_ ?_
                                                                ·
                                                                  refine Pre.b1 (Ψ := (fun (r : MI) => Fr KC I0 r)) (fr_F_X10_makePipe hpb _ _ _ c_y0 c_y1 hI) (fun I93 h_I93 => ?_)
                                                                  exact Pre.so h_I93
                                                                ·
                                                                  refine Pre.ite ?_ ?_
                                                                  ·
                                                                    refine Pre.b1 (Ψ := (fun (r : MI) => Fr KC I0 r)) (fr_F_X10_makeHose hpb _ _ _ c_y0 c_y1 hI) (fun I96 h_I96 => ?_)
                                                                    exact Pre.so h_I96
                                                                  ·
                                                                    exact Pre.so hI
        ·
          refine Pre.wv ?_
          exact ih _ _ _ _ c_y0 c_y1 h_I7
theorem fr_F_X10_make {N : Nat} (hpb : pb ≤ 1) (x0 : Nat) (x1 : Nat) (x2 : Int32) (I : MI) (c_x0 : CO x0) (c_x1 : CO x1) (hI : Fr KC I0 I) : Pre (F_X10_make N x0 x1 x2 I L (GRf pb)) (fun (r : MI) => Fr KC I0 r) := by
  rw [F_X10_make]
  refine Pre.ite ?_ Pre.no
  refine Pre.ite ?_ Pre.no
  refine Pre.b1 (Ψ := (fun (r : MI) => Fr KC I0 r)) (fr_F_X9_clear hpb _ _ _ c_x1 hI) (fun I1 h_I1 => ?_)
  refine Pre.b1 (Ψ := (fun (r : MI) => Fr KC I0 r)) (fr_LF_X10_make_7 hpb _ _ _ _ _ c_x0 c_x1 h_I1) (fun z99 h_z99 => ?_)
  exact Pre.so h_z99
theorem fr_F_X10_judge {N : Nat} (hpb : pb ≤ 1) (x0 : Nat) (x1 : Nat) (I : MI) (c_x0 : CO x0) (c_x1 : CO x1) (hI : Fr KC I0 I) : Pre (F_X10_judge N x0 x1 I L (GRf pb)) (fun (r : MI) => Fr KC I0 r) := by
  rw [F_X10_judge]
  refine Pre.ite ?_ Pre.no
  refine Pre.ite ?_ Pre.no
  refine Pre.b1 (Ψ := fun _ => True) Pre.an (fun v1 _ => ?_)
  refine Pre.bd (Ψ := CO) (rfC hpb c_x1) (fun a3 c_a3 => ?_)
  refine Pre.bd (Ψ := fun _ => True) Pre.an (fun v4 _ => ?_)
  refine Pre.b1 (Ψ := fun _ => True) Pre.an (fun v5 _ => ?_)
  refine Pre.b1 (Ψ := fun _ => True) Pre.an (fun s7 _ => ?_)
  refine Pre.b1 (Ψ := fun _ => True) Pre.an (fun s11 _ => ?_)
  refine Pre.bd (Fr.w1 (K := KC) (I0 := I0) hI (fun _ => c_a3)) (fun I15 h_I15 => ?_)
  exact Pre.so h_I15
theorem fr_F_X10_restart {N : Nat} (hpb : pb ≤ 1) (x0 : Nat) (x1 : Int32) (I : MI) (c_x0 : CO x0) (hI : Fr KC I0 I) : Pre (F_X10_restart N x0 x1 I L (GRf pb)) (fun (r : Bool × MI) => Fr KC I0 r.2) := by
  rw [F_X10_restart]
  refine Pre.ite ?_ Pre.no
  refine Pre.ite ?_ ?_
  ·
    refine Pre.wm (Fr.up (K := KC) (I0 := I0) hI c_x0) (fun I2 h_I2 => ?_)
    refine Pre.b1 (Ψ := (fun (r : Nat) => CO r)) (fr_F_X10_unitAt hpb _ _ _ c_x0 h_I2) (fun a3 h_a3 => ?_)
    refine Pre.ite ?_ Pre.no
    refine Pre.b1 (Ψ := (fun (r : MI) => Fr KC I0 r)) (fr_F_X10_make hpb _ _ _ _ c_x0 h_a3 h_I2) (fun I6 h_I6 => ?_)
    refine Pre.b1 (Ψ := (fun (r : Nat) => CO r)) (fr_F_X10_unitAt hpb _ _ _ c_x0 h_I6) (fun a8 h_a8 => ?_)
    refine Pre.ite ?_ Pre.no
    refine Pre.b1 (Ψ := (fun (r : MI) => Fr KC I0 r)) (fr_F_X10_judge hpb _ _ _ c_x0 h_a8 h_I6) (fun I11 h_I11 => ?_)
    exact Pre.so h_I11
  ·
    exact Pre.so hI
theorem fr_F_X5_stop (hpb : pb ≤ 1) (x0 : Nat) (x1 : Int32) (I : MI) (c_x0 : CO x0) (hI : Fr KC I0 I) : Pre (F_X5_stop x0 x1 I L (GRf pb)) (fun (r : MI) => Fr KC I0 r) := by
  rw [F_X5_stop]
  refine Pre.ite ?_ Pre.no
  refine Pre.ite ?_ ?_
  ·
    exact Pre.so hI
  ·
    refine Pre.ite ?_ ?_
    ·
      exact Pre.so hI
    ·
      refine Pre.b1 (Ψ := (fun (r : Nat) => CO r)) (fr_F_X5_itemAt hpb _ _ _ c_x0 hI) (fun a3 h_a3 => ?_)
      refine Pre.ite ?_ Pre.no
      refine Pre.wm (Fr.up (K := KC) (I0 := I0) hI h_a3) (fun I6 h_I6 => ?_)
      exact Pre.so h_I6
theorem fr_F_X2_perform {N : Nat} (hpb : pb ≤ 1) (x0 : Nat) (x1 : Int32) (x2 : Int32) (x3 : Int32) (I : MI) (c_x0 : CO x0) (hI : Fr KC I0 I) : Pre (F_X2_perform N x0 x1 x2 x3 I L (GRf pb)) (fun (r : Bool × MI) => Fr KC I0 r.2) := by
  rw [F_X2_perform]
  refine Pre.ite ?_ Pre.no
  refine Pre.b2 (Ψ := (fun (r : Int32 × MI) => Fr KC I0 r.2)) ?_ (fun u1 I2 h_I2 => ?_)
  ·
    refine Pre.ite ?_ ?_
    ·
      refine Pre.bd (Ψ := CO) (rfC hpb c_x0) (fun a7 c_a7 => ?_)
      refine Pre.b1 (Ψ := (fun (r : Nat) => CO r)) (fr_F_X10_unitAt hpb _ _ _ c_a7 hI) (fun a8 h_a8 => ?_)
      refine Pre.ite ?_ Pre.no
      refine Pre.b2 (Ψ := (fun (r : Bool × MI) => Fr KC I0 r.2)) (fr_F_X2_switchOn hpb _ _ h_a8 hI) (fun b11 I12 h_I12 => ?_)
      refine Pre.wv ?_
      exact Pre.so h_I12
    ·
      refine Pre.ite ?_ ?_
      ·
        refine Pre.bd (Ψ := CO) (rfC hpb c_x0) (fun a16 c_a16 => ?_)
        refine Pre.b1 (Ψ := (fun (r : Nat) => CO r)) (fr_F_X10_unitAt hpb _ _ _ c_a16 hI) (fun a17 h_a17 => ?_)
        refine Pre.ite ?_ Pre.no
        refine Pre.b2 (Ψ := (fun (r : Bool × MI) => Fr KC I0 r.2)) (fr_F_X2_switchOff hpb _ _ h_a17 hI) (fun b20 I21 h_I21 => ?_)
        refine Pre.wv ?_
        exact Pre.so h_I21
      ·
        refine Pre.ite ?_ ?_
        ·
          refine Pre.wm (Fr.up (K := KC) (I0 := I0) hI c_x0) (fun I25 h_I25 => ?_)
          exact Pre.so h_I25
        ·
          refine Pre.ite ?_ ?_
          ·
            refine Pre.bd (Ψ := CO) (rfC hpb c_x0) (fun a27 c_a27 => ?_)
            refine Pre.b1 (Ψ := (fun (r : MI) => Fr KC I0 r)) (fr_F_X7_setAim hpb _ _ _ _ c_a27 hI) (fun I28 h_I28 => ?_)
            exact Pre.so h_I28
          ·
            refine Pre.ite ?_ ?_
            ·
              refine Pre.bd (Ψ := CO) (rfC hpb c_x0) (fun a31 c_a31 => ?_)
              refine Pre.b2 (Ψ := (fun (r : Bool × MI) => Fr KC I0 r.2)) (fr_F_X10_restart hpb _ _ _ c_a31 hI) (fun b32 I33 h_I33 => ?_)
              refine Pre.wv ?_
              exact Pre.so h_I33
            ·
              refine Pre.ite ?_ ?_
              ·
                refine Pre.bd (Ψ := CO) (rfC hpb c_x0) (fun a37 c_a37 => ?_)
                refine Pre.b1 (Ψ := (fun (r : Nat) => CO r)) (fr_F_X10_unitAt hpb _ _ _ c_a37 hI) (fun a38 h_a38 => ?_)
                refine Pre.ite ?_ Pre.no
                refine Pre.bd (Ψ := CO) (rfC hpb h_a38) (fun a41 c_a41 => ?_)
                refine Pre.bd (Fr.w1 (K := KC) (I0 := I0) hI (fun _ => c_a41)) (fun I42 h_I42 => ?_)
                exact Pre.so h_I42
              ·
                refine Pre.ite ?_ ?_
                ·
                  refine Pre.bd (Ψ := CO) (rfC hpb c_x0) (fun a44 c_a44 => ?_)
                  refine Pre.b1 (Ψ := (fun (r : MI) => Fr KC I0 r)) (fr_F_X5_stop hpb _ _ _ c_a44 hI) (fun I45 h_I45 => ?_)
                  exact Pre.so h_I45
                ·
                  exact Pre.so hI
  ·
    refine Pre.b1 (Ψ := (fun (r : MI) => Fr KC I0 r)) ?_ (fun I47 h_I47 => ?_)
    ·
      refine Pre.ite ?_ ?_
      ·
        refine Pre.wm (Fr.up (K := KC) (I0 := I0) h_I2 c_x0) (fun I51 h_I51 => ?_)
        exact Pre.so h_I51
      ·
        refine Pre.wm (Fr.up (K := KC) (I0 := I0) h_I2 c_x0) (fun I52 h_I52 => ?_)
        exact Pre.so h_I52
    ·
      refine Pre.bd (Ψ := fun _ => True) Pre.an (fun q53 _ => ?_)
      exact Pre.so h_I47
theorem fr_LF_X2_doItems_2 {N : Nat} (hpb : pb ≤ 1) : ∀ (k : Nat) (y0 : Nat) (y1 : Int32) (y2 : Int32) (I : MI) {L : ML}, CO y0 → Fr KC I0 I → Pre (LF_X2_doItems_2 N k y0 y1 y2 I L (GRf pb)) (fun (r : MI) => Fr KC I0 r) := by
  intro k
  induction k with
  | zero =>
    intro y0 y1 y2 I L c_y0 hI r hr
    rw [LF_X2_doItems_2] at hr
    cases hr
  | succ k ih =>
    intro y0 y1 y2 I L c_y0 hI
    rw [LF_X2_doItems_2]
    refine Pre.bd (Ψ := CO) (rfC hpb c_y0) (fun a1 c_a1 => ?_)
    refine Pre.b1 (Ψ := fun _ => True) Pre.an (fun v2 _ => ?_)
    refine Pre.ite ?_ ?_
    ·
      exact Pre.so hI
    ·
      refine Pre.b1 (Ψ := (fun (r : Nat) => CO r)) (fr_F_X5_itemAt hpb _ _ _ c_a1 hI) (fun a5 h_a5 => ?_)
      refine Pre.ite ?_ Pre.no
      refine Pre.b1 (Ψ := (fun (r : MI) => Fr KC I0 r)) ?_ (fun I8 h_I8 => ?_)
      ·
        refine Pre.ite ?_ ?_
        ·
          refine Pre.b2 (Ψ := (fun (r : Bool × MI) => Fr KC I0 r.2)) (fr_F_X2_isDue hpb _ _ _ _ c_y0 h_a5 hI) (fun b12 I13 h_I13 => ?_)
          refine Pre.b1 (Ψ := (fun (r : MI) => Fr KC I0 r)) ?_ (fun I15 h_I15 => ?_)
          ·
            refine Pre.ite ?_ ?_
            ·
              exact Pre.so h_I13
            ·
              refine Pre.wm (Fr.up (K := KC) (I0 := I0) h_I13 h_a5) (fun I19 h_I19 => ?_)
              refine Pre.b2 (Ψ := (fun (r : Bool × MI) => Fr KC I0 r.2)) (fr_F_X2_perform hpb _ _ _ _ _ c_y0 h_I19) (fun b20 I21 h_I21 => ?_)
              refine Pre.b1 (Ψ := (fun (r : MI) => Fr KC I0 r)) ?_ (fun I23 h_I23 => ?_)
              ·
                refine Pre.ite ?_ ?_
                ·
                  refine Pre.wm (Fr.up (K := KC) (I0 := I0) h_I21 h_a5) (fun I27 h_I27 => ?_)
                  exact Pre.so h_I27
                ·
                  exact Pre.so h_I21
              ·
                exact Pre.so h_I23
          ·
            exact Pre.so h_I15
        ·
          exact Pre.so hI
      ·
        refine Pre.wv ?_
        exact ih _ _ _ _ c_y0 h_I8
theorem fr_F_X2_doItems {N : Nat} (hpb : pb ≤ 1) (x0 : Nat) (x1 : Int32) (I : MI) (c_x0 : CO x0) (hI : Fr KC I0 I) : Pre (F_X2_doItems N x0 x1 I L (GRf pb)) (fun (r : MI) => Fr KC I0 r) := by
  rw [F_X2_doItems]
  refine Pre.ite ?_ Pre.no
  refine Pre.b1 (Ψ := (fun (r : MI) => Fr KC I0 r)) (fr_LF_X2_doItems_2 hpb _ _ _ _ _ c_x0 hI) (fun z29 h_z29 => ?_)
  exact Pre.so h_z29
theorem fr_F_X9_keepByte (hpb : pb ≤ 1) (x0 : Nat) (x1 : Int32) (I : MI) (c_x0 : CO x0) (hI : Fr KC I0 I) : Pre (F_X9_keepByte x0 x1 I L (GRf pb)) (fun (r : MI) => Fr KC I0 r) := by
  rw [F_X9_keepByte]
  refine Pre.ite ?_ Pre.no
  refine Pre.bd (Ψ := CO) (rfC hpb c_x0) (fun a1 c_a1 => ?_)
  refine Pre.bd (Ψ := CO) (rfC hpb c_x0) (fun a2 c_a2 => ?_)
  refine Pre.bd (Ψ := fun _ => True) Pre.an (fun v3 _ => ?_)
  refine Pre.b1 (Ψ := fun _ => True) Pre.an (fun v4 _ => ?_)
  refine Pre.bd (Fr.w1 (K := KC) (I0 := I0) hI (fun _ => c_a1)) (fun I6 h_I6 => ?_)
  refine Pre.bd (Ψ := fun _ => True) Pre.an (fun v7 _ => ?_)
  refine Pre.bd (Fr.w1 (K := KC) (I0 := I0) h_I6 (fun _ => c_a2)) (fun I8 h_I8 => ?_)
  exact Pre.so h_I8
theorem fr_LF_X2_keepPicture_26 {N : Nat} (hpb : pb ≤ 1) : ∀ (k : Nat) (y0 : Nat) (y1 : Nat) (y2 : Int32) (y3 : Int32) (I : MI) {L : ML}, CO y0 → CO y1 → Fr KC I0 I → Pre (LF_X2_keepPicture_26 N k y0 y1 y2 y3 I L (GRf pb)) (fun (r : MI) => Fr KC I0 r) := by
  intro k
  induction k with
  | zero =>
    intro y0 y1 y2 y3 I L c_y0 c_y1 hI r hr
    rw [LF_X2_keepPicture_26] at hr
    cases hr
  | succ k ih =>
    intro y0 y1 y2 y3 I L c_y0 c_y1 hI
    rw [LF_X2_keepPicture_26]
    refine Pre.ite ?_ ?_
    ·
      exact Pre.so hI
    ·
      refine Pre.bd (Ψ := CO) (rfC hpb c_y0) (fun a10 c_a10 => ?_)
      refine Pre.bd (Ψ := fun _ => True) Pre.an (fun v11 _ => ?_)
      refine Pre.b1 (Ψ := fun _ => True) Pre.an (fun v12 _ => ?_)
      refine Pre.b1 (Ψ := (fun (r : MI) => Fr KC I0 r)) (fr_F_X9_keepByte hpb _ _ _ c_y1 hI) (fun I14 h_I14 => ?_)
      refine Pre.wv ?_
      exact ih _ _ _ _ _ c_y0 c_y1 h_I14
theorem fr_F_X2_keepPicture {N : Nat} (hpb : pb ≤ 1) (x0 : Nat) (x1 : Nat) (I : MI) (c_x0 : CO x0) (c_x1 : CO x1) (hI : Fr KC I0 I) : Pre (F_X2_keepPicture N x0 x1 I L (GRf pb)) (fun (r : MI) => Fr KC I0 r) := by
  rw [F_X2_keepPicture]
  refine Pre.ite ?_ Pre.no
  refine Pre.ite ?_ Pre.no
  refine Pre.bd (Ψ := CO) (rfC hpb c_x0) (fun a1 c_a1 => ?_)
  refine Pre.bd (Ψ := fun _ => True) Pre.an (fun v2 _ => ?_)
  refine Pre.b1 (Ψ := fun _ => True) Pre.an (fun b3 _ => ?_)
  refine Pre.ite ?_ ?_
  ·
    exact Pre.so hI
  ·
    refine Pre.b1 (Ψ := fun _ => True) Pre.an (fun b6 _ => ?_)
    refine Pre.ite ?_ ?_
    ·
      exact Pre.so hI
    ·
      refine Pre.b1 (Ψ := (fun (r : MI) => Fr KC I0 r)) (fr_LF_X2_keepPicture_26 hpb _ _ _ _ _ _ c_x0 c_x1 hI) (fun z17 h_z17 => ?_)
      refine Pre.bd (Ψ := fun _ => True) Pre.an (fun v19 _ => ?_)
      refine Pre.bd (Fr.w1 (K := KC) (I0 := I0) h_z17 (fun _ => c_a1)) (fun I20 h_I20 => ?_)
      exact Pre.so h_I20
theorem fr_F_X2_takeReading {N : Nat} (hpb : pb ≤ 1) (x0 : Nat) (x1 : Nat) (x2 : Int32) (I : MI) (c_x0 : CO x0) (c_x1 : CO x1) (hI : Fr KC I0 I) : Pre (F_X2_takeReading N x0 x1 x2 I L (GRf pb)) (fun (r : MI) => Fr KC I0 r) := by
  rw [F_X2_takeReading]
  refine Pre.ite ?_ Pre.no
  refine Pre.ite ?_ Pre.no
  refine Pre.b1 (Ψ := fun _ => True) Pre.an (fun b1 _ => ?_)
  refine Pre.ite ?_ ?_
  ·
    refine Pre.b1 (Ψ := fun _ => True) Pre.an (fun b4 _ => ?_)
    refine Pre.ite ?_ ?_
    ·
      refine Pre.b1 (Ψ := fun _ => True) Pre.an (fun b7 _ => ?_)
      refine Pre.ite ?_ ?_
      ·
        refine Pre.b1 (Ψ := fun _ => True) Pre.an (fun b10 _ => ?_)
        refine Pre.ite ?_ ?_
        ·
          exact Pre.so hI
        ·
          refine Pre.bd (Ψ := CO) (rfC hpb c_x1) (fun a13 c_a13 => ?_)
          refine Pre.bd (Ψ := fun _ => True) Pre.an (fun v14 _ => ?_)
          refine Pre.b1 (Ψ := fun _ => True) Pre.an (fun v15 _ => ?_)
          refine Pre.bd (Fr.w1 (K := KC) (I0 := I0) hI (fun _ => c_a13)) (fun I17 h_I17 => ?_)
          refine Pre.bd (Ψ := CO) (rfC hpb c_x0) (fun a18 c_a18 => ?_)
          refine Pre.bd (Ψ := fun _ => True) Pre.an (fun v19 _ => ?_)
          refine Pre.b1 (Ψ := (fun (r : Nat) => CO r)) (fr_F_X10_unitAt hpb _ _ _ c_a18 h_I17) (fun a20 h_a20 => ?_)
          refine Pre.ite ?_ Pre.no
          refine Pre.b1 (Ψ := (fun (r : MI) => Fr KC I0 r)) (fr_F_X2_keepPicture hpb _ _ _ c_x1 h_a20 h_I17) (fun I23 h_I23 => ?_)
          exact Pre.so h_I23
      ·
        refine Pre.bd (Ψ := CO) (rfC hpb c_x1) (fun a25 c_a25 => ?_)
        refine Pre.bd (Ψ := CO) (rfC hpb c_x0) (fun a26 c_a26 => ?_)
        refine Pre.bd (Ψ := fun _ => True) Pre.an (fun v27 _ => ?_)
        refine Pre.b1 (Ψ := (fun (r : Nat) => CO r)) (fr_F_X10_unitAt hpb _ _ _ c_a26 hI) (fun a28 h_a28 => ?_)
        refine Pre.ite ?_ Pre.no
        refine Pre.bd (Ψ := CO) (rfC hpb h_a28) (fun a31 c_a31 => ?_)
        refine Pre.bd (Ψ := fun _ => True) Pre.an (fun v32 _ => ?_)
        refine Pre.bd (Ψ := fun _ => True) Pre.an (fun v33 _ => ?_)
        refine Pre.bd (Fr.w1 (K := KC) (I0 := I0) hI (fun _ => c_a25)) (fun I34 h_I34 => ?_)
        exact Pre.so h_I34
    ·
      refine Pre.bd (Ψ := CO) (rfC hpb c_x0) (fun a35 c_a35 => ?_)
      refine Pre.b1 (Ψ := fun _ => True) Pre.an (fun v36 _ => ?_)
      refine Pre.b1 (Ψ := fun _ => True) Pre.an (fun v38 _ => ?_)
      refine Pre.b1 (Ψ := fun _ => True) Pre.an (fun s40 _ => ?_)
      refine Pre.bd (Ψ := CO) (rfC hpb c_x1) (fun a52 c_a52 => ?_)
      refine Pre.b1 (Ψ := fun _ => True) Pre.an (fun s53 _ => ?_)
      refine Pre.bd (Fr.w1 (K := KC) (I0 := I0) hI (fun _ => c_a52)) (fun I58 h_I58 => ?_)
      exact Pre.so h_I58
  ·
    refine Pre.bd (Ψ := CO) (rfC hpb c_x1) (fun a59 c_a59 => ?_)
    refine Pre.bd (Ψ := CO) (rfC hpb c_x0) (fun a60 c_a60 => ?_)
    refine Pre.bd (Ψ := fun _ => True) Pre.an (fun v61 _ => ?_)
    refine Pre.b1 (Ψ := fun _ => True) Pre.an (fun v62 _ => ?_)
    refine Pre.bd (Ψ := fun _ => True) Pre.an (fun v64 _ => ?_)
    refine Pre.bd (Fr.w1 (K := KC) (I0 := I0) hI (fun _ => c_a59)) (fun I65 h_I65 => ?_)
    exact Pre.so h_I65
theorem fr_LF_X2_takeReadings_2 {N : Nat} (hpb : pb ≤ 1) : ∀ (k : Nat) (y0 : Nat) (y1 : Int32) (y2 : Int32) (I : MI) {L : ML}, CO y0 → Fr KC I0 I → Pre (LF_X2_takeReadings_2 N k y0 y1 y2 I L (GRf pb)) (fun (r : MI) => Fr KC I0 r) := by
  intro k
  induction k with
  | zero =>
    intro y0 y1 y2 I L c_y0 hI r hr
    rw [LF_X2_takeReadings_2] at hr
    cases hr
  | succ k ih =>
    intro y0 y1 y2 I L c_y0 hI
    rw [LF_X2_takeReadings_2]
    refine Pre.bd (Ψ := CO) (rfC hpb c_y0) (fun a1 c_a1 => ?_)
    refine Pre.b1 (Ψ := fun _ => True) Pre.an (fun v2 _ => ?_)
    refine Pre.ite ?_ ?_
    ·
      exact Pre.so hI
    ·
      refine Pre.b1 (Ψ := (fun (r : Nat) => CO r)) (fr_F_X10_unitAt hpb _ _ _ c_a1 hI) (fun a5 h_a5 => ?_)
      refine Pre.ite ?_ Pre.no
      refine Pre.b1 (Ψ := fun _ => True) Pre.an (fun b8 _ => ?_)
      refine Pre.b1 (Ψ := (fun (r : MI) => Fr KC I0 r)) ?_ (fun I10 h_I10 => ?_)
      ·
        refine Pre.ite ?_ ?_
        ·
          exact Pre.so hI
        ·
          refine Pre.bd (Ψ := CO) (rfC hpb h_a5) (fun a14 c_a14 => ?_)
          refine Pre.bd (Ψ := fun _ => True) Pre.an (fun v15 _ => ?_)
          refine Pre.b1 (Ψ := fun _ => True) Pre.an (fun b16 _ => ?_)
          refine Pre.b1 (Ψ := (fun (r : MI) => Fr KC I0 r)) ?_ (fun I18 h_I18 => ?_)
          ·
            refine Pre.ite ?_ ?_
            ·
              exact Pre.so hI
            ·
              refine Pre.b1 (Ψ := (fun (r : MI) => Fr KC I0 r)) (fr_F_X2_takeReading hpb _ _ _ _ c_y0 h_a5 hI) (fun I22 h_I22 => ?_)
              exact Pre.so h_I22
          ·
            exact Pre.so h_I18
      ·
        refine Pre.wv ?_
        exact ih _ _ _ _ c_y0 h_I10
theorem fr_F_X2_takeReadings {N : Nat} (hpb : pb ≤ 1) (x0 : Nat) (x1 : Int32) (I : MI) (c_x0 : CO x0) (hI : Fr KC I0 I) : Pre (F_X2_takeReadings N x0 x1 I L (GRf pb)) (fun (r : MI) => Fr KC I0 r) := by
  rw [F_X2_takeReadings]
  refine Pre.ite ?_ Pre.no
  refine Pre.b1 (Ψ := (fun (r : MI) => Fr KC I0 r)) (fr_LF_X2_takeReadings_2 hpb _ _ _ _ _ c_x0 hI) (fun z25 h_z25 => ?_)
  exact Pre.so h_z25
theorem fr_LF_X2_saveLine_2 {N : Nat} (hpb : pb ≤ 1) : ∀ (k : Nat) (y0 : Nat) (y1 : Int32) (I : MI) {L : ML}, CO y0 → Fr KC I0 I → Pre (LF_X2_saveLine_2 N k y0 y1 I L (GRf pb)) (fun (r : MI) => Fr KC I0 r) := by
  intro k
  induction k with
  | zero =>
    intro y0 y1 I L c_y0 hI r hr
    rw [LF_X2_saveLine_2] at hr
    cases hr
  | succ k ih =>
    intro y0 y1 I L c_y0 hI
    rw [LF_X2_saveLine_2]
    refine Pre.bd (Ψ := CO) (rfC hpb c_y0) (fun a1 c_a1 => ?_)
    refine Pre.b1 (Ψ := fun _ => True) Pre.an (fun v2 _ => ?_)
    refine Pre.ite ?_ ?_
    ·
      exact Pre.so hI
    ·
      refine Pre.b1 (Ψ := (fun (r : Nat) => CO r)) (fr_F_X10_unitAt hpb _ _ _ c_a1 hI) (fun a5 h_a5 => ?_)
      refine Pre.ite ?_ Pre.no
      refine Pre.b1 (Ψ := fun _ => True) Pre.an (fun b8 _ => ?_)
      refine Pre.b1 (Ψ := (fun (r : MI) => Fr KC I0 r)) ?_ (fun I10 h_I10 => ?_)
      ·
        refine Pre.ite ?_ ?_
        ·
          exact Pre.so hI
        ·
          refine Pre.bd (Ψ := CO) (rfC hpb h_a5) (fun a14 c_a14 => ?_)
          refine Pre.bd (Ψ := fun _ => True) Pre.an (fun v15 _ => ?_)
          refine Pre.b1 (Ψ := (fun (r : MI) => Fr KC I0 r)) ?_ (fun I16 h_I16 => ?_)
          ·
            refine Pre.ite ?_ ?_
            ·
              refine Pre.b1 (Ψ := fun _ => True) Pre.an (fun b20 _ => ?_)
              refine Pre.b1 (Ψ := (fun (r : MI) => Fr KC I0 r)) ?_ (fun I22 h_I22 => ?_)
              ·
                refine Pre.ite ?_ ?_
                ·
                  refine Pre.bd (Fr.w1 (K := KC) (I0 := I0) hI (fun _ => c_a14)) (fun I26 h_I26 => ?_)
                  exact Pre.so h_I26
                ·
                  exact Pre.so hI
              ·
                exact Pre.so h_I22
            ·
              exact Pre.so hI
          ·
            exact Pre.so h_I16
      ·
        refine Pre.wv ?_
        exact ih _ _ _ c_y0 h_I10
theorem fr_F_X2_saveLine {N : Nat} (hpb : pb ≤ 1) (x0 : Nat) (I : MI) (c_x0 : CO x0) (hI : Fr KC I0 I) : Pre (F_X2_saveLine N x0 I L (GRf pb)) (fun (r : MI) => Fr KC I0 r) := by
  rw [F_X2_saveLine]
  refine Pre.ite ?_ Pre.no
  refine Pre.b1 (Ψ := (fun (r : MI) => Fr KC I0 r)) (fr_LF_X2_saveLine_2 hpb _ _ _ _ c_x0 hI) (fun z28 h_z28 => ?_)
  exact Pre.so h_z28
theorem fr_F_X7_speedUp (hpb : pb ≤ 1) (x0 : Nat) (x1 : Int32) (x2 : Int32) (I : MI) (c_x0 : CO x0) (hI : Fr KC I0 I) : Pre (F_X7_speedUp x0 x1 x2 I L (GRf pb)) (fun (r : MI) => Fr KC I0 r) := by
  rw [F_X7_speedUp]
  refine Pre.ite ?_ Pre.no
  refine Pre.ite ?_ ?_
  ·
    exact Pre.so hI
  ·
    refine Pre.bd (Ψ := CO) (rfC hpb c_x0) (fun a2 c_a2 => ?_)
    refine Pre.ite ?_ ?_
    ·
      exact Pre.so hI
    ·
      refine Pre.bd (Ψ := fun _ => True) Pre.an (fun v4 _ => ?_)
      refine Pre.bd (Fr.w1 (K := KC) (I0 := I0) hI (fun _ => c_a2)) (fun I5 h_I5 => ?_)
      exact Pre.so h_I5
theorem fr_LF_X7_spinWheels_5 {N : Nat} (hpb : pb ≤ 1) : ∀ (k : Nat) (y0 : Nat) (y1 : Int32) (y2 : Int32) (y3 : Int32) (y4 : Int32) (I : MI) {L : ML}, CO y0 → Fr KC I0 I → Pre (LF_X7_spinWheels_5 N k y0 y1 y2 y3 y4 I L (GRf pb)) (fun (r : Int32 × MI) => Fr KC I0 r.2) := by
  intro k
  induction k with
  | zero =>
    intro y0 y1 y2 y3 y4 I L c_y0 hI r hr
    rw [LF_X7_spinWheels_5] at hr
    cases hr
  | succ k ih =>
    intro y0 y1 y2 y3 y4 I L c_y0 hI
    rw [LF_X7_spinWheels_5]
    refine Pre.bd (Ψ := CO) (rfC hpb c_y0) (fun a1 c_a1 => ?_)
    refine Pre.b1 (Ψ := fun _ => True) Pre.an (fun v2 _ => ?_)
    refine Pre.ite ?_ ?_
    ·
      exact Pre.so hI
    ·
      refine Pre.b1 (Ψ := (fun (r : Nat) => CO r)) (fr_F_X10_unitAt hpb _ _ _ c_a1 hI) (fun a5 h_a5 => ?_)
      refine Pre.ite ?_ Pre.no
      refine Pre.b1 (Ψ := fun _ => True) Pre.an (fun b8 _ => ?_)
      refine Pre.b2 (Ψ := (fun (r : Int32 × MI) => Fr KC I0 r.2)) ?_ (fun u10 I11 h_I11 => ?_)
      ·
        refine Pre.ite ?_ ?_
        ·
          exact Pre.so hI
        ·
          refine Pre.bd (Ψ := CO) (rfC hpb h_a5) (fun a15 c_a15 => ?_)
          refine Pre.bd (Ψ := fun _ => True) Pre.an (fun v16 _ => ?_)
          refine Pre.b2 (Ψ := (fun (r : Int32 × MI) => Fr KC I0 r.2)) ?_ (fun u17 I18 h_I18 => ?_)
          ·
            refine Pre.ite ?_ ?_
            ·
              refine Pre.bd (Ψ := fun _ => True) Pre.an (fun v22 _ => ?_)
              refine Pre.bd (Ψ := fun _ => True) Pre.an (fun v23 _ => ?_)
              refine Pre.bd (Ψ := fun _ => True) Pre.an (fun v24 _ => ?_)
              refine Pre.b1 (Ψ := fun _ => True) Pre.an (fun v25 _ => ?_)
              refine Pre.b1 (Ψ := fun _ => True) Pre.an (fun v27 _ => ?_)
              refine Pre.wv ?_
              refine Pre.bd (Ψ := fun _ => True) Pre.an (fun v30 _ => ?_)
              refine Pre.bd (Fr.w1 (K := KC) (I0 := I0) hI (fun _ => c_a15)) (fun I31 h_I31 => ?_)
              refine Pre.b1 (Ψ := (fun (r : MI) => Fr KC I0 r)) (fr_F_X7_speedUp hpb _ _ _ _ c_y0 h_I31) (fun I32 h_I32 => ?_)
              refine Pre.wv ?_
              exact Pre.so h_I32
            ·
              exact Pre.so hI
          ·
            exact Pre.so h_I18
      ·
        refine Pre.wv ?_
        exact ih _ _ _ _ _ _ c_y0 h_I11
theorem fr_F_X7_spinWheels {N : Nat} (hpb : pb ≤ 1) (x0 : Nat) (x1 : Int32) (x2 : Int32) (I : MI) (c_x0 : CO x0) (hI : Fr KC I0 I) : Pre (F_X7_spinWheels N x0 x1 x2 I L (GRf pb)) (fun (r : Int32 × MI) => Fr KC I0 r.2) := by
  rw [F_X7_spinWheels]
  refine Pre.ite ?_ Pre.no
  refine Pre.b1 (Ψ := (fun (r : Int32 × MI) => Fr KC I0 r.2)) (fr_LF_X7_spinWheels_5 hpb _ _ _ _ _ _ _ c_x0 hI) (fun z36 h_z36 => ?_)
  exact Pre.so h_z36
theorem fr_LF_X7_driveCoils_5 {N : Nat} (hpb : pb ≤ 1) : ∀ (k : Nat) (y0 : Nat) (y1 : Int32) (y3 : Int32) (y4 : Int32) (I : MI) {L : ML}, CO y0 → Fr KC I0 I → Pre (LF_X7_driveCoils_5 N k y0 y1 y3 y4 I L (GRf pb)) (fun (r : MI) => Fr KC I0 r) := by
  intro k
  induction k with
  | zero =>
    intro y0 y1 y3 y4 I L c_y0 hI r hr
    rw [LF_X7_driveCoils_5] at hr
    cases hr
  | succ k ih =>
    intro y0 y1 y3 y4 I L c_y0 hI
    rw [LF_X7_driveCoils_5]
    refine Pre.bd (Ψ := CO) (rfC hpb c_y0) (fun a1 c_a1 => ?_)
    refine Pre.b1 (Ψ := fun _ => True) Pre.an (fun v2 _ => ?_)
    refine Pre.ite ?_ ?_
    ·
      exact Pre.so hI
    ·
      refine Pre.b1 (Ψ := (fun (r : Nat) => CO r)) (fr_F_X10_unitAt hpb _ _ _ c_a1 hI) (fun a5 h_a5 => ?_)
      refine Pre.ite ?_ Pre.no
      refine Pre.b1 (Ψ := fun _ => True) Pre.an (fun b8 _ => ?_)
      refine Pre.b2 (Ψ := (fun (r : Int32 × MI) => Fr KC I0 r.2)) ?_ (fun u10 I11 h_I11 => ?_)
      ·
        refine Pre.ite ?_ ?_
        ·
          exact Pre.so hI
        ·
          refine Pre.bd (Ψ := CO) (rfC hpb h_a5) (fun a15 c_a15 => ?_)
          refine Pre.bd (Ψ := fun _ => True) Pre.an (fun v16 _ => ?_)
          refine Pre.b2 (Ψ := (fun (r : Int32 × MI) => Fr KC I0 r.2)) ?_ (fun u17 I18 h_I18 => ?_)
          ·
            refine Pre.ite ?_ ?_
            ·
              refine Pre.bd (Ψ := fun _ => True) Pre.an (fun v22 _ => ?_)
              refine Pre.b2 (Ψ := (fun (r : Int32 × MI) => Fr KC I0 r.2)) ?_ (fun u23 I24 h_I24 => ?_)
              ·
                refine Pre.ite ?_ ?_
                ·
                  exact Pre.so hI
                ·
                  refine Pre.b1 (Ψ := fun _ => True) Pre.an (fun v28 _ => ?_)
                  refine Pre.b1 (Ψ := (fun (r : MI) => Fr KC I0 r)) (fr_F_X7_speedUp hpb _ _ _ _ c_y0 hI) (fun I30 h_I30 => ?_)
                  refine Pre.wv ?_
                  exact Pre.so h_I30
              ·
                exact Pre.so h_I24
            ·
              exact Pre.so hI
          ·
            exact Pre.so h_I18
      ·
        refine Pre.wv ?_
        exact ih _ _ _ _ _ c_y0 h_I11
theorem fr_F_X7_driveCoils {N : Nat} (hpb : pb ≤ 1) (x0 : Nat) (x1 : Int32) (x2 : Int32) (I : MI) (c_x0 : CO x0) (hI : Fr KC I0 I) : Pre (F_X7_driveCoils N x0 x1 x2 I L (GRf pb)) (fun (r : MI) => Fr KC I0 r) := by
  rw [F_X7_driveCoils]
  refine Pre.ite ?_ Pre.no
  refine Pre.b1 (Ψ := (fun (r : MI) => Fr KC I0 r)) (fr_LF_X7_driveCoils_5 hpb _ _ _ _ _ _ c_x0 hI) (fun z34 h_z34 => ?_)
  exact Pre.so h_z34
theorem fr_F_X7_unload (hpb : pb ≤ 1) (x0 : Nat) (x1 : Nat) (x2 : Nat) (I : MI) (c_x0 : CO x0) (c_x1 : CO x1) (c_x2 : CO x2) (hI : Fr KC I0 I) : Pre (F_X7_unload x0 x1 x2 I L (GRf pb)) (fun (r : MI) => Fr KC I0 r) := by
  rw [F_X7_unload]
  refine Pre.ite ?_ Pre.no
  refine Pre.ite ?_ Pre.no
  refine Pre.ite ?_ Pre.no
  refine Pre.bd (Ψ := CO) (rfC hpb c_x1) (fun a1 c_a1 => ?_)
  refine Pre.bd (Ψ := fun _ => True) Pre.an (fun v2 _ => ?_)
  refine Pre.bd (Ψ := CO) (rfC hpb c_x2) (fun a3 c_a3 => ?_)
  refine Pre.bd (Ψ := fun _ => True) Pre.an (fun v4 _ => ?_)
  refine Pre.b1 (Ψ := fun _ => True) Pre.an (fun v5 _ => ?_)
  refine Pre.b1 (Ψ := fun _ => True) Pre.an (fun v7 _ => ?_)
  refine Pre.b1 (Ψ := fun _ => True) Pre.an (fun s9 _ => ?_)
  refine Pre.bd (Fr.w1 (K := KC) (I0 := I0) hI (fun _ => c_a1)) (fun I13 h_I13 => ?_)
  refine Pre.bd (Ψ := CO) (rfC hpb c_x0) (fun a14 c_a14 => ?_)
  refine Pre.bd (Ψ := fun _ => True) Pre.an (fun v15 _ => ?_)
  refine Pre.b1 (Ψ := (fun (r : Nat) => CO r)) (fr_F_X10_unitAt hpb _ _ _ c_a14 h_I13) (fun a16 h_a16 => ?_)
  refine Pre.ite ?_ Pre.no
  refine Pre.bd (Ψ := CO) (rfC hpb h_a16) (fun a19 c_a19 => ?_)
  refine Pre.bd (Ψ := fun _ => True) Pre.an (fun v20 _ => ?_)
  refine Pre.bd (Ψ := fun _ => True) Pre.an (fun v21 _ => ?_)
  refine Pre.bd (Fr.w1 (K := KC) (I0 := I0) h_I13 (fun _ => c_a19)) (fun I22 h_I22 => ?_)
  refine Pre.bd (Ψ := fun _ => True) Pre.an (fun v23 _ => ?_)
  refine Pre.bd (Fr.w1 (K := KC) (I0 := I0) h_I22 (fun _ => c_a3)) (fun I24 h_I24 => ?_)
  exact Pre.so h_I24
theorem fr_LF_X7_unloadWheels_2 {N : Nat} (hpb : pb ≤ 1) : ∀ (k : Nat) (y0 : Nat) (y1 : Int32) (y2 : Int32) (y3 : Int32) (I : MI) {L : ML}, CO y0 → Fr KC I0 I → Pre (LF_X7_unloadWheels_2 N k y0 y1 y2 y3 I L (GRf pb)) (fun (r : MI) => Fr KC I0 r) := by
  intro k
  induction k with
  | zero =>
    intro y0 y1 y2 y3 I L c_y0 hI r hr
    rw [LF_X7_unloadWheels_2] at hr
    cases hr
  | succ k ih =>
    intro y0 y1 y2 y3 I L c_y0 hI
    rw [LF_X7_unloadWheels_2]
    refine Pre.bd (Ψ := CO) (rfC hpb c_y0) (fun a1 c_a1 => ?_)
    refine Pre.b1 (Ψ := fun _ => True) Pre.an (fun v2 _ => ?_)
    refine Pre.ite ?_ ?_
    ·
      exact Pre.so hI
    ·
      refine Pre.b1 (Ψ := (fun (r : Nat) => CO r)) (fr_F_X10_unitAt hpb _ _ _ c_a1 hI) (fun a5 h_a5 => ?_)
      refine Pre.ite ?_ Pre.no
      refine Pre.b1 (Ψ := fun _ => True) Pre.an (fun b8 _ => ?_)
      refine Pre.b1 (Ψ := fun _ => True) Pre.an (fun s10 _ => ?_)
      refine Pre.b1 (Ψ := (fun (r : MI) => Fr KC I0 r)) ?_ (fun I20 h_I20 => ?_)
      ·
        refine Pre.ite ?_ ?_
        ·
          exact Pre.so hI
        ·
          refine Pre.bd (Ψ := CO) (rfC hpb h_a5) (fun a24 c_a24 => ?_)
          refine Pre.bd (Ψ := fun _ => True) Pre.an (fun v25 _ => ?_)
          refine Pre.b1 (Ψ := fun _ => True) Pre.an (fun v26 _ => ?_)
          refine Pre.bd (Ψ := fun _ => True) Pre.an (fun v28 _ => ?_)
          refine Pre.b1 (Ψ := (fun (r : MI) => Fr KC I0 r)) ?_ (fun I29 h_I29 => ?_)
          ·
            refine Pre.ite ?_ ?_
            ·
              exact Pre.so hI
            ·
              refine Pre.b1 (Ψ := fun _ => True) Pre.an (fun v33 _ => ?_)
              refine Pre.b1 (Ψ := (fun (r : MI) => Fr KC I0 r)) ?_ (fun I35 h_I35 => ?_)
              ·
                refine Pre.ite ?_ ?_
                ·
                  exact Pre.so hI
                ·
                  refine Pre.b1 (Ψ := (fun (r : Nat) => CO r)) (fr_F_X10_unitAt hpb _ _ _ c_a1 hI) (fun a39 h_a39 => ?_)
                  refine Pre.ite ?_ Pre.no
                  refine Pre.b1 (Ψ := (fun (r : MI) => Fr KC I0 r)) (fr_F_X7_unload hpb _ _ _ _ c_y0 h_a5 h_a39 hI) (fun I42 h_I42 => ?_)
                  exact Pre.so h_I42
              ·
                exact Pre.so h_I35
          ·
            exact Pre.so h_I29
      ·
        refine Pre.wv ?_
        exact ih _ _ _ _ _ c_y0 h_I20
theorem fr_F_X7_unloadWheels {N : Nat} (hpb : pb ≤ 1) (x0 : Nat) (x1 : Int32) (x2 : Int32) (I : MI) (c_x0 : CO x0) (hI : Fr KC I0 I) : Pre (F_X7_unloadWheels N x0 x1 x2 I L (GRf pb)) (fun (r : MI) => Fr KC I0 r) := by
  rw [F_X7_unloadWheels]
  refine Pre.ite ?_ Pre.no
  refine Pre.b1 (Ψ := (fun (r : MI) => Fr KC I0 r)) (fr_LF_X7_unloadWheels_2 hpb _ _ _ _ _ _ c_x0 hI) (fun z45 h_z45 => ?_)
  exact Pre.so h_z45
theorem fr_LF_X7_steer_2 {N : Nat} (hpb : pb ≤ 1) : ∀ (k : Nat) (y0 : Nat) (y1 : Int32) (y2 : Int32) (y3 : Int32) (I : MI) {L : ML}, CO y0 → Fr KC I0 I → Pre (LF_X7_steer_2 N k y0 y1 y2 y3 I L (GRf pb)) (fun (r : MI) => Fr KC I0 r) := by
  intro k
  induction k with
  | zero =>
    intro y0 y1 y2 y3 I L c_y0 hI r hr
    rw [LF_X7_steer_2] at hr
    cases hr
  | succ k ih =>
    intro y0 y1 y2 y3 I L c_y0 hI
    rw [LF_X7_steer_2]
    refine Pre.ite ?_ ?_
    ·
      exact Pre.so hI
    ·
      refine Pre.b1 (Ψ := fun _ => True) Pre.an (fun v2 _ => ?_)
      refine Pre.b1 (Ψ := fun _ => True) Pre.an (fun v4 _ => ?_)
      refine Pre.b1 (Ψ := fun _ => True) Pre.an (fun v6 _ => ?_)
      refine Pre.b2 (Ψ := (fun (r : Int32 × MI) => Fr KC I0 r.2)) (fr_F_X7_spinWheels hpb _ _ _ _ c_y0 hI) (fun v8 I9 h_I9 => ?_)
      refine Pre.wv ?_
      refine Pre.b1 (Ψ := fun _ => True) Pre.an (fun b12 _ => ?_)
      refine Pre.b1 (Ψ := (fun (r : MI) => Fr KC I0 r)) ?_ (fun I14 h_I14 => ?_)
      ·
        refine Pre.ite ?_ ?_
        ·
          exact Pre.so h_I9
        ·
          refine Pre.b1 (Ψ := (fun (r : MI) => Fr KC I0 r)) (fr_F_X7_driveCoils hpb _ _ _ _ c_y0 h_I9) (fun I18 h_I18 => ?_)
          exact Pre.so h_I18
      ·
        refine Pre.b1 (Ψ := (fun (r : MI) => Fr KC I0 r)) (fr_F_X7_unloadWheels hpb _ _ _ _ c_y0 h_I14) (fun I20 h_I20 => ?_)
        refine Pre.wv ?_
        exact ih _ _ _ _ _ c_y0 h_I20
theorem fr_F_X7_steer {N : Nat} (hpb : pb ≤ 1) (x0 : Nat) (x1 : Int32) (x2 : Int32) (I : MI) (c_x0 : CO x0) (hI : Fr KC I0 I) : Pre (F_X7_steer N x0 x1 x2 I L (GRf pb)) (fun (r : MI) => Fr KC I0 r) := by
  rw [F_X7_steer]
  refine Pre.ite ?_ Pre.no
  refine Pre.b1 (Ψ := (fun (r : MI) => Fr KC I0 r)) (fr_LF_X7_steer_2 hpb _ _ _ _ _ _ c_x0 hI) (fun z23 h_z23 => ?_)
  exact Pre.so h_z23
theorem fr_LF_X7_turn_17 {N : Nat} (hpb : pb ≤ 1) : ∀ (k : Nat) (y0 : Nat) (y2 : Int32) (I : MI) {L : ML}, CO y0 → Fr KC I0 I → Pre (LF_X7_turn_17 N k y0 y2 I L (GRf pb)) (fun (r : MI) => Fr KC I0 r) := by
  intro k
  induction k with
  | zero =>
    intro y0 y2 I L c_y0 hI r hr
    rw [LF_X7_turn_17] at hr
    cases hr
  | succ k ih =>
    intro y0 y2 I L c_y0 hI
    rw [LF_X7_turn_17]
    refine Pre.ite ?_ ?_
    ·
      exact Pre.so hI
    ·
      refine Pre.bd (Ψ := CO) (rfC hpb c_y0) (fun a10 c_a10 => ?_)
      refine Pre.bd (Ψ := fun _ => True) Pre.an (fun v11 _ => ?_)
      refine Pre.b1 (Ψ := fun _ => True) Pre.an (fun v12 _ => ?_)
      refine Pre.bd (Fr.w1 (K := KC) (I0 := I0) hI (fun _ => c_a10)) (fun I14 h_I14 => ?_)
      refine Pre.bd (Ψ := CO) (rfC hpb c_y0) (fun a15 c_a15 => ?_)
      refine Pre.bd (Ψ := fun _ => True) Pre.an (fun v16 _ => ?_)
      refine Pre.bd (Ψ := fun _ => True) Pre.an (fun v17 _ => ?_)
      refine Pre.b1 (Ψ := fun _ => True) Pre.an (fun v18 _ => ?_)
      refine Pre.bd (Fr.w1 (K := KC) (I0 := I0) h_I14 (fun _ => c_a15)) (fun I20 h_I20 => ?_)
      refine Pre.wv ?_
      exact ih _ _ _ c_y0 h_I20
theorem fr_F_X7_turn {N : Nat} (hpb : pb ≤ 1) (x0 : Nat) (x1 : Int32) (I : MI) (c_x0 : CO x0) (hI : Fr KC I0 I) : Pre (F_X7_turn N x0 x1 I L (GRf pb)) (fun (r : MI) => Fr KC I0 r) := by
  rw [F_X7_turn]
  refine Pre.ite ?_ Pre.no
  refine Pre.b1 (Ψ := fun _ => True) Pre.an (fun b1 _ => ?_)
  refine Pre.b1 (Ψ := (fun (r : MI) => Fr KC I0 r)) ?_ (fun I3 h_I3 => ?_)
  ·
    refine Pre.ite ?_ ?_
    ·
      exact Pre.so hI
    ·
      refine Pre.b1 (Ψ := (fun (r : MI) => Fr KC I0 r)) (fr_F_X7_speedUp hpb _ _ _ _ c_x0 hI) (fun I7 h_I7 => ?_)
      exact Pre.so h_I7
  ·
    refine Pre.b1 (Ψ := (fun (r : MI) => Fr KC I0 r)) (fr_LF_X7_turn_17 hpb _ _ _ _ c_x0 h_I3) (fun z22 h_z22 => ?_)
    exact Pre.so h_z22
theorem fr_F_X6_burn (hpb : pb ≤ 1) (x0 : Nat) (x1 : Nat) (x2 : Int32) (I : MI) (c_x0 : CO x0) (c_x1 : CO x1) (hI : Fr KC I0 I) : Pre (F_X6_burn x0 x1 x2 I L (GRf pb)) (fun (r : Int32 × MI) => Fr KC I0 r.2) := by
  rw [F_X6_burn]
  refine Pre.ite ?_ Pre.no
  refine Pre.ite ?_ Pre.no
  refine Pre.bd (Ψ := CO) (rfC hpb c_x0) (fun a1 c_a1 => ?_)
  refine Pre.bd (Ψ := CO) (rfC hpb c_x1) (fun a2 c_a2 => ?_)
  refine Pre.bd (Ψ := fun _ => True) Pre.an (fun v3 _ => ?_)
  refine Pre.b1 (Ψ := (fun (r : Nat) => CO r)) (fr_F_X10_unitAt hpb _ _ _ c_a1 hI) (fun a4 h_a4 => ?_)
  refine Pre.ite ?_ Pre.no
  refine Pre.b1 (Ψ := fun _ => True) Pre.an (fun b7 _ => ?_)
  refine Pre.ite ?_ ?_
  ·
    exact Pre.so hI
  ·
    refine Pre.bd (Ψ := CO) (rfC hpb h_a4) (fun a10 c_a10 => ?_)
    refine Pre.bd (Ψ := fun _ => True) Pre.an (fun v11 _ => ?_)
    refine Pre.ite ?_ ?_
    ·
      refine Pre.b1 (Ψ := fun _ => True) Pre.an (fun b13 _ => ?_)
      refine Pre.b1 (Ψ := (fun (r : MI) => Fr KC I0 r)) ?_ (fun I15 h_I15 => ?_)
      ·
        refine Pre.ite ?_ ?_
        ·
          exact Pre.so hI
        ·
          refine Pre.bd (Ψ := fun _ => True) Pre.an (fun v19 _ => ?_)
          refine Pre.bd (Fr.w1 (K := KC) (I0 := I0) hI (fun _ => c_a10)) (fun I20 h_I20 => ?_)
          exact Pre.so h_I20
      ·
        refine Pre.bd (Ψ := fun _ => True) Pre.an (fun v21 _ => ?_)
        exact Pre.so h_I15
    ·
      exact Pre.so hI
theorem fr_LF_X6_balance_4 {N : Nat} (hpb : pb ≤ 1) : ∀ (k : Nat) (y0 : Nat) (y2 : Int32) (y3 : Int32) (I : MI) {L : ML}, CO y0 → Fr KC I0 I → Pre (LF_X6_balance_4 N k y0 y2 y3 I L (GRf pb)) (fun (r : Int32 × MI) => Fr KC I0 r.2) := by
  intro k
  induction k with
  | zero =>
    intro y0 y2 y3 I L c_y0 hI r hr
    rw [LF_X6_balance_4] at hr
    cases hr
  | succ k ih =>
    intro y0 y2 y3 I L c_y0 hI
    rw [LF_X6_balance_4]
    refine Pre.bd (Ψ := CO) (rfC hpb c_y0) (fun a1 c_a1 => ?_)
    refine Pre.b1 (Ψ := fun _ => True) Pre.an (fun v2 _ => ?_)
    refine Pre.ite ?_ ?_
    ·
      exact Pre.so hI
    ·
      refine Pre.b1 (Ψ := (fun (r : Nat) => CO r)) (fr_F_X10_unitAt hpb _ _ _ c_a1 hI) (fun a5 h_a5 => ?_)
      refine Pre.ite ?_ Pre.no
      refine Pre.b1 (Ψ := fun _ => True) Pre.an (fun b8 _ => ?_)
      refine Pre.b2 (Ψ := (fun (r : Int32 × MI) => Fr KC I0 r.2)) ?_ (fun u10 I11 h_I11 => ?_)
      ·
        refine Pre.ite ?_ ?_
        ·
          exact Pre.so hI
        ·
          refine Pre.b1 (Ψ := fun _ => True) Pre.an (fun s15 _ => ?_)
          refine Pre.b1 (Ψ := fun _ => True) Pre.an (fun v24 _ => ?_)
          refine Pre.bd (Ψ := CO) (rfC hpb h_a5) (fun a26 c_a26 => ?_)
          refine Pre.bd (Ψ := fun _ => True) Pre.an (fun v27 _ => ?_)
          refine Pre.b1 (Ψ := fun _ => True) Pre.an (fun v28 _ => ?_)
          refine Pre.b1 (Ψ := fun _ => True) Pre.an (fun v30 _ => ?_)
          refine Pre.b1 (Ψ := fun _ => True) Pre.an (fun v32 _ => ?_)
          refine Pre.b1 (Ψ := fun _ => True) Pre.an (fun s34 _ => ?_)
          refine Pre.bd (Ψ := fun _ => True) Pre.an (fun v38 _ => ?_)
          refine Pre.bd (Fr.w1 (K := KC) (I0 := I0) hI (fun _ => c_a26)) (fun I39 h_I39 => ?_)
          refine Pre.wv ?_
          exact Pre.so h_I39
      ·
        refine Pre.wv ?_
        exact ih _ _ _ _ c_y0 h_I11
theorem fr_F_X6_balance {N : Nat} (hpb : pb ≤ 1) (x0 : Nat) (x1 : Int32) (I : MI) (c_x0 : CO x0) (hI : Fr KC I0 I) : Pre (F_X6_balance N x0 x1 I L (GRf pb)) (fun (r : Int32 × MI) => Fr KC I0 r.2) := by
  rw [F_X6_balance]
  refine Pre.ite ?_ Pre.no
  refine Pre.b1 (Ψ := (fun (r : Int32 × MI) => Fr KC I0 r.2)) (fr_LF_X6_balance_4 hpb _ _ _ _ _ c_x0 hI) (fun z42 h_z42 => ?_)
  exact Pre.so h_z42
theorem fr_F_X6_shed {N : Nat} (hpb : pb ≤ 1) (x0 : Nat) (I : MI) (c_x0 : CO x0) (hI : Fr KC I0 I) : Pre (F_X6_shed N x0 I L (GRf pb)) (fun (r : MI) => Fr KC I0 r) := by
  rw [F_X6_shed]
  refine Pre.ite ?_ Pre.no
  refine Pre.b1 (Ψ := fun _ => True) Pre.an (fun z30 _ => ?_)
  refine Pre.ite ?_ ?_
  ·
    exact Pre.so hI
  ·
    refine Pre.bd (Ψ := CO) (rfC hpb c_x0) (fun a33 c_a33 => ?_)
    refine Pre.b1 (Ψ := (fun (r : Nat) => CO r)) (fr_F_X10_unitAt hpb _ _ _ c_a33 hI) (fun a34 h_a34 => ?_)
    refine Pre.ite ?_ Pre.no
    refine Pre.bd (Ψ := CO) (rfC hpb h_a34) (fun a37 c_a37 => ?_)
    refine Pre.bd (Fr.w1 (K := KC) (I0 := I0) hI (fun _ => c_a37)) (fun I38 h_I38 => ?_)
    exact Pre.so h_I38
theorem fr_F_X6_pour (hpb : pb ≤ 1) (x0 : Nat) (x1 : Int32) (x2 : Nat) (x3 : Nat) (I : MI) (c_x0 : CO x0) (c_x2 : CO x2) (c_x3 : CO x3) (hI : Fr KC I0 I) : Pre (F_X6_pour x0 x1 x2 x3 I L (GRf pb)) (fun (r : MI) => Fr KC I0 r) := by
  rw [F_X6_pour]
  refine Pre.ite ?_ Pre.no
  refine Pre.ite ?_ Pre.no
  refine Pre.ite ?_ Pre.no
  refine Pre.bd (Ψ := CO) (rfC hpb c_x2) (fun a1 c_a1 => ?_)
  refine Pre.bd (Ψ := fun _ => True) Pre.an (fun v2 _ => ?_)
  refine Pre.bd (Ψ := CO) (rfC hpb c_x3) (fun a3 c_a3 => ?_)
  refine Pre.bd (Ψ := fun _ => True) Pre.an (fun v4 _ => ?_)
  refine Pre.wv ?_
  refine Pre.bd (Ψ := fun _ => True) Pre.an (fun v6 _ => ?_)
  refine Pre.bd (Ψ := fun _ => True) Pre.an (fun v7 _ => ?_)
  refine Pre.wv ?_
  refine Pre.bd (Ψ := fun _ => True) Pre.an (fun v9 _ => ?_)
  refine Pre.b1 (Ψ := fun _ => True) Pre.an (fun v10 _ => ?_)
  refine Pre.b1 (Ψ := fun _ => True) Pre.an (fun v12 _ => ?_)
  refine Pre.b1 (Ψ := fun _ => True) Pre.an (fun v14 _ => ?_)
  refine Pre.bd (Ψ := fun _ => True) Pre.an (fun v16 _ => ?_)
  refine Pre.bd (Fr.w1 (K := KC) (I0 := I0) hI (fun _ => c_a1)) (fun I17 h_I17 => ?_)
  refine Pre.bd (Ψ := fun _ => True) Pre.an (fun v18 _ => ?_)
  refine Pre.bd (Fr.w1 (K := KC) (I0 := I0) h_I17 (fun _ => c_a3)) (fun I19 h_I19 => ?_)
  exact Pre.so h_I19
theorem fr_LF_X6_levelTanks_2 {N : Nat} (hpb : pb ≤ 1) : ∀ (k : Nat) (y0 : Nat) (y1 : Int32) (I : MI) {L : ML}, CO y0 → Fr KC I0 I → Pre (LF_X6_levelTanks_2 N k y0 y1 I L (GRf pb)) (fun (r : MI) => Fr KC I0 r) := by
  intro k
  induction k with
  | zero =>
    intro y0 y1 I L c_y0 hI r hr
    rw [LF_X6_levelTanks_2] at hr
    cases hr
  | succ k ih =>
    intro y0 y1 I L c_y0 hI
    rw [LF_X6_levelTanks_2]
    refine Pre.bd (Ψ := CO) (rfC hpb c_y0) (fun a1 c_a1 => ?_)
    refine Pre.b1 (Ψ := fun _ => True) Pre.an (fun v2 _ => ?_)
    refine Pre.ite ?_ ?_
    ·
      exact Pre.so hI
    ·
      refine Pre.b1 (Ψ := (fun (r : Nat) => CO r)) (fr_F_X10_unitAt hpb _ _ _ c_a1 hI) (fun a5 h_a5 => ?_)
      refine Pre.ite ?_ Pre.no
      refine Pre.b1 (Ψ := fun _ => True) Pre.an (fun b8 _ => ?_)
      refine Pre.b1 (Ψ := (fun (r : MI) => Fr KC I0 r)) ?_ (fun I10 h_I10 => ?_)
      ·
        refine Pre.ite ?_ ?_
        ·
          exact Pre.so hI
        ·
          refine Pre.bd (Ψ := CO) (rfC hpb h_a5) (fun a14 c_a14 => ?_)
          refine Pre.bd (Ψ := fun _ => True) Pre.an (fun v15 _ => ?_)
          refine Pre.b1 (Ψ := (fun (r : Nat) => CO r)) (fr_F_X10_unitAt hpb _ _ _ c_a1 hI) (fun a16 h_a16 => ?_)
          refine Pre.ite ?_ Pre.no
          refine Pre.bd (Ψ := fun _ => True) Pre.an (fun v19 _ => ?_)
          refine Pre.b1 (Ψ := (fun (r : Nat) => CO r)) (fr_F_X10_unitAt hpb _ _ _ c_a1 hI) (fun a20 h_a20 => ?_)
          refine Pre.ite ?_ Pre.no
          refine Pre.b1 (Ψ := fun _ => True) Pre.an (fun b23 _ => ?_)
          refine Pre.b1 (Ψ := (fun (r : MI) => Fr KC I0 r)) ?_ (fun I25 h_I25 => ?_)
          ·
            refine Pre.ite ?_ ?_
            ·
              exact Pre.so hI
            ·
              refine Pre.b1 (Ψ := fun _ => True) Pre.an (fun b29 _ => ?_)
              refine Pre.b1 (Ψ := (fun (r : MI) => Fr KC I0 r)) ?_ (fun I31 h_I31 => ?_)
              ·
                refine Pre.ite ?_ ?_
                ·
                  exact Pre.so hI
                ·
                  refine Pre.bd (Ψ := CO) (rfC hpb h_a16) (fun a35 c_a35 => ?_)
                  refine Pre.bd (Ψ := fun _ => True) Pre.an (fun v36 _ => ?_)
                  refine Pre.bd (Ψ := CO) (rfC hpb h_a20) (fun a37 c_a37 => ?_)
                  refine Pre.bd (Ψ := fun _ => True) Pre.an (fun v38 _ => ?_)
                  refine Pre.b1 (Ψ := fun _ => True) Pre.an (fun s39 _ => ?_)
                  refine Pre.bd (Ψ := fun _ => True) Pre.an (fun v43 _ => ?_)
                  refine Pre.b1 (Ψ := (fun (r : Nat) => CO r)) ?_ (fun s44 h_s44 => ?_)
                  ·
                    refine Pre.ite ?_ ?_
                    ·
                      exact Pre.so h_a20
                    ·
                      exact Pre.so h_a16
                  ·
                    refine Pre.ite ?_ Pre.no
                    refine Pre.b1 (Ψ := (fun (r : Nat) => CO r)) ?_ (fun s49 h_s49 => ?_)
                    ·
                      refine Pre.ite ?_ ?_
                      ·
                        exact Pre.so h_a16
                      ·
                        exact Pre.so h_a20
                    ·
                      refine Pre.ite ?_ Pre.no
                      refine Pre.b1 (Ψ := (fun (r : MI) => Fr KC I0 r)) (fr_F_X6_pour hpb _ _ _ _ _ c_y0 h_s44 h_s49 hI) (fun I54 h_I54 => ?_)
                      exact Pre.so h_I54
              ·
                exact Pre.so h_I31
          ·
            exact Pre.so h_I25
      ·
        refine Pre.wv ?_
        exact ih _ _ _ c_y0 h_I10
theorem fr_F_X6_levelTanks {N : Nat} (hpb : pb ≤ 1) (x0 : Nat) (I : MI) (c_x0 : CO x0) (hI : Fr KC I0 I) : Pre (F_X6_levelTanks N x0 I L (GRf pb)) (fun (r : MI) => Fr KC I0 r) := by
  rw [F_X6_levelTanks]
  refine Pre.ite ?_ Pre.no
  refine Pre.b1 (Ψ := (fun (r : MI) => Fr KC I0 r)) (fr_LF_X6_levelTanks_2 hpb _ _ _ _ c_x0 hI) (fun z57 h_z57 => ?_)
  exact Pre.so h_z57
theorem fr_F_X6_addHeat (hpb : pb ≤ 1) (x0 : Nat) (x1 : Int32) (x2 : Int32) (I : MI) (c_x0 : CO x0) (hI : Fr KC I0 I) : Pre (F_X6_addHeat x0 x1 x2 I L (GRf pb)) (fun (r : MI) => Fr KC I0 r) := by
  rw [F_X6_addHeat]
  refine Pre.ite ?_ Pre.no
  refine Pre.ite ?_ ?_
  ·
    exact Pre.so hI
  ·
    refine Pre.bd (Ψ := CO) (rfC hpb c_x0) (fun a2 c_a2 => ?_)
    refine Pre.ite ?_ ?_
    ·
      exact Pre.so hI
    ·
      refine Pre.bd (Ψ := fun _ => True) Pre.an (fun v4 _ => ?_)
      refine Pre.bd (Fr.w1 (K := KC) (I0 := I0) hI (fun _ => c_a2)) (fun I5 h_I5 => ?_)
      exact Pre.so h_I5
theorem fr_F_X6_leadHeat (hpb : pb ≤ 1) (x0 : Nat) (x1 : Nat) (I : MI) (c_x0 : CO x0) (c_x1 : CO x1) (hI : Fr KC I0 I) : Pre (F_X6_leadHeat x0 x1 I L (GRf pb)) (fun (r : MI) => Fr KC I0 r) := by
  rw [F_X6_leadHeat]
  refine Pre.ite ?_ Pre.no
  refine Pre.ite ?_ Pre.no
  refine Pre.bd (Ψ := CO) (rfC hpb c_x1) (fun a1 c_a1 => ?_)
  refine Pre.bd (Ψ := fun _ => True) Pre.an (fun v2 _ => ?_)
  refine Pre.bd (Ψ := fun _ => True) Pre.an (fun v3 _ => ?_)
  refine Pre.ite ?_ ?_
  ·
    exact Pre.so hI
  ·
    refine Pre.bd (Ψ := CO) (rfC hpb c_x0) (fun a5 c_a5 => ?_)
    refine Pre.b1 (Ψ := (fun (r : Nat) => CO r)) (fr_F_X10_unitAt hpb _ _ _ c_a5 hI) (fun a6 h_a6 => ?_)
    refine Pre.ite ?_ Pre.no
    refine Pre.bd (Ψ := CO) (rfC hpb h_a6) (fun a9 c_a9 => ?_)
    refine Pre.bd (Ψ := fun _ => True) Pre.an (fun v10 _ => ?_)
    refine Pre.b1 (Ψ := (fun (r : Nat) => CO r)) (fr_F_X10_unitAt hpb _ _ _ c_a5 hI) (fun a11 h_a11 => ?_)
    refine Pre.ite ?_ Pre.no
    refine Pre.bd (Ψ := CO) (rfC hpb h_a11) (fun a14 c_a14 => ?_)
    refine Pre.bd (Ψ := fun _ => True) Pre.an (fun v15 _ => ?_)
    refine Pre.wv ?_
    refine Pre.bd (Ψ := fun _ => True) Pre.an (fun v17 _ => ?_)
    refine Pre.b1 (Ψ := (fun (r : MI) => Fr KC I0 r)) (fr_F_X6_addHeat hpb _ _ _ _ c_x0 hI) (fun I18 h_I18 => ?_)
    refine Pre.bd (Ψ := fun _ => True) Pre.an (fun v20 _ => ?_)
    refine Pre.b1 (Ψ := (fun (r : MI) => Fr KC I0 r)) (fr_F_X6_addHeat hpb _ _ _ _ c_x0 h_I18) (fun I21 h_I21 => ?_)
    exact Pre.so h_I21
theorem fr_LF_X6_breakUnits_2 {N : Nat} (hpb : pb ≤ 1) : ∀ (k : Nat) (y0 : Nat) (y1 : Int32) (I : MI) {L : ML}, CO y0 → Fr KC I0 I → Pre (LF_X6_breakUnits_2 N k y0 y1 I L (GRf pb)) (fun (r : MI) => Fr KC I0 r) := by
  intro k
  induction k with
  | zero =>
    intro y0 y1 I L c_y0 hI r hr
    rw [LF_X6_breakUnits_2] at hr
    cases hr
  | succ k ih =>
    intro y0 y1 I L c_y0 hI
    rw [LF_X6_breakUnits_2]
    refine Pre.bd (Ψ := CO) (rfC hpb c_y0) (fun a1 c_a1 => ?_)
    refine Pre.b1 (Ψ := fun _ => True) Pre.an (fun v2 _ => ?_)
    refine Pre.ite ?_ ?_
    ·
      exact Pre.so hI
    ·
      refine Pre.b1 (Ψ := (fun (r : Nat) => CO r)) (fr_F_X10_unitAt hpb _ _ _ c_a1 hI) (fun a5 h_a5 => ?_)
      refine Pre.ite ?_ Pre.no
      refine Pre.bd (Ψ := CO) (rfC hpb h_a5) (fun a8 c_a8 => ?_)
      refine Pre.bd (Ψ := fun _ => True) Pre.an (fun v9 _ => ?_)
      refine Pre.b1 (Ψ := (fun (r : MI) => Fr KC I0 r)) ?_ (fun I10 h_I10 => ?_)
      ·
        refine Pre.ite ?_ ?_
        ·
          refine Pre.bd (Ψ := fun _ => True) Pre.an (fun v14 _ => ?_)
          refine Pre.b1 (Ψ := fun _ => True) Pre.an (fun b15 _ => ?_)
          refine Pre.b1 (Ψ := (fun (r : MI) => Fr KC I0 r)) ?_ (fun I17 h_I17 => ?_)
          ·
            refine Pre.ite ?_ ?_
            ·
              refine Pre.bd (Fr.w1 (K := KC) (I0 := I0) hI (fun _ => c_a8)) (fun I21 h_I21 => ?_)
              refine Pre.bd (Fr.w1 (K := KC) (I0 := I0) h_I21 (fun _ => c_a8)) (fun I22 h_I22 => ?_)
              refine Pre.wm (Fr.up (K := KC) (I0 := I0) h_I22 c_y0) (fun I23 h_I23 => ?_)
              exact Pre.so h_I23
            ·
              exact Pre.so hI
          ·
            exact Pre.so h_I17
        ·
          exact Pre.so hI
      ·
        refine Pre.wv ?_
        exact ih _ _ _ c_y0 h_I10
theorem fr_F_X6_breakUnits {N : Nat} (hpb : pb ≤ 1) (x0 : Nat) (I : MI) (c_x0 : CO x0) (hI : Fr KC I0 I) : Pre (F_X6_breakUnits N x0 I L (GRf pb)) (fun (r : MI) => Fr KC I0 r) := by
  rw [F_X6_breakUnits]
  refine Pre.ite ?_ Pre.no
  refine Pre.b1 (Ψ := (fun (r : MI) => Fr KC I0 r)) (fr_LF_X6_breakUnits_2 hpb _ _ _ _ c_x0 hI) (fun z25 h_z25 => ?_)
  exact Pre.so h_z25
theorem fr_LF_X6_switchThermos_2 {N : Nat} (hpb : pb ≤ 1) : ∀ (k : Nat) (y0 : Nat) (y1 : Int32) (I : MI) {L : ML}, CO y0 → Fr KC I0 I → Pre (LF_X6_switchThermos_2 N k y0 y1 I L (GRf pb)) (fun (r : MI) => Fr KC I0 r) := by
  intro k
  induction k with
  | zero =>
    intro y0 y1 I L c_y0 hI r hr
    rw [LF_X6_switchThermos_2] at hr
    cases hr
  | succ k ih =>
    intro y0 y1 I L c_y0 hI
    rw [LF_X6_switchThermos_2]
    refine Pre.bd (Ψ := CO) (rfC hpb c_y0) (fun a1 c_a1 => ?_)
    refine Pre.b1 (Ψ := fun _ => True) Pre.an (fun v2 _ => ?_)
    refine Pre.ite ?_ ?_
    ·
      exact Pre.so hI
    ·
      refine Pre.b1 (Ψ := (fun (r : Nat) => CO r)) (fr_F_X10_unitAt hpb _ _ _ c_a1 hI) (fun a5 h_a5 => ?_)
      refine Pre.ite ?_ Pre.no
      refine Pre.b1 (Ψ := fun _ => True) Pre.an (fun b8 _ => ?_)
      refine Pre.b1 (Ψ := (fun (r : MI) => Fr KC I0 r)) ?_ (fun I10 h_I10 => ?_)
      ·
        refine Pre.ite ?_ ?_
        ·
          exact Pre.so hI
        ·
          refine Pre.bd (Ψ := CO) (rfC hpb h_a5) (fun a14 c_a14 => ?_)
          refine Pre.bd (Ψ := fun _ => True) Pre.an (fun v15 _ => ?_)
          refine Pre.b1 (Ψ := (fun (r : Nat) => CO r)) (fr_F_X10_unitAt hpb _ _ _ c_a1 hI) (fun a16 h_a16 => ?_)
          refine Pre.ite ?_ Pre.no
          refine Pre.bd (Ψ := CO) (rfC hpb h_a16) (fun a19 c_a19 => ?_)
          refine Pre.bd (Ψ := fun _ => True) Pre.an (fun v20 _ => ?_)
          refine Pre.bd (Ψ := fun _ => True) Pre.an (fun v21 _ => ?_)
          refine Pre.bd (Ψ := fun _ => True) Pre.an (fun v22 _ => ?_)
          refine Pre.b1 (Ψ := (fun (r : MI) => Fr KC I0 r)) ?_ (fun I23 h_I23 => ?_)
          ·
            refine Pre.ite ?_ ?_
            ·
              refine Pre.bd (Ψ := fun _ => True) Pre.an (fun v27 _ => ?_)
              refine Pre.bd (Ψ := fun _ => True) Pre.an (fun v28 _ => ?_)
              refine Pre.b1 (Ψ := (fun (r : MI) => Fr KC I0 r)) ?_ (fun I29 h_I29 => ?_)
              ·
                refine Pre.ite ?_ ?_
                ·
                  exact Pre.so hI
                ·
                  refine Pre.bd (Fr.w1 (K := KC) (I0 := I0) hI (fun _ => c_a14)) (fun I33 h_I33 => ?_)
                  exact Pre.so h_I33
              ·
                exact Pre.so h_I29
            ·
              refine Pre.bd (Fr.w1 (K := KC) (I0 := I0) hI (fun _ => c_a14)) (fun I34 h_I34 => ?_)
              exact Pre.so h_I34
          ·
            exact Pre.so h_I23
      ·
        refine Pre.wv ?_
        exact ih _ _ _ c_y0 h_I10
theorem fr_F_X6_switchThermos {N : Nat} (hpb : pb ≤ 1) (x0 : Nat) (I : MI) (c_x0 : CO x0) (hI : Fr KC I0 I) : Pre (F_X6_switchThermos N x0 I L (GRf pb)) (fun (r : MI) => Fr KC I0 r) := by
  rw [F_X6_switchThermos]
  refine Pre.ite ?_ Pre.no
  refine Pre.b1 (Ψ := (fun (r : MI) => Fr KC I0 r)) (fr_LF_X6_switchThermos_2 hpb _ _ _ _ c_x0 hI) (fun z36 h_z36 => ?_)
  exact Pre.so h_z36
theorem fr_LF_X6_warm_2 {N : Nat} (hpb : pb ≤ 1) : ∀ (k : Nat) (y0 : Nat) (y1 : Int32) (y2 : Int32) (I : MI) {L : ML}, CO y0 → Fr KC I0 I → Pre (LF_X6_warm_2 N k y0 y1 y2 I L (GRf pb)) (fun (r : MI) => Fr KC I0 r) := by
  intro k
  induction k with
  | zero =>
    intro y0 y1 y2 I L c_y0 hI r hr
    rw [LF_X6_warm_2] at hr
    cases hr
  | succ k ih =>
    intro y0 y1 y2 I L c_y0 hI
    rw [LF_X6_warm_2]
    refine Pre.bd (Ψ := CO) (rfC hpb c_y0) (fun a1 c_a1 => ?_)
    refine Pre.b1 (Ψ := fun _ => True) Pre.an (fun v2 _ => ?_)
    refine Pre.ite ?_ ?_
    ·
      exact Pre.so hI
    ·
      refine Pre.bd (Ψ := CO) (rfC hpb c_y0) (fun a5 c_a5 => ?_)
      refine Pre.ite ?_ ?_
      ·
        exact Pre.so hI
      ·
        refine Pre.b1 (Ψ := (fun (r : Nat) => CO r)) (fr_F_X10_unitAt hpb _ _ _ c_a1 hI) (fun a7 h_a7 => ?_)
        refine Pre.ite ?_ Pre.no
        refine Pre.b1 (Ψ := fun _ => True) Pre.an (fun v10 _ => ?_)
        refine Pre.b1 (Ψ := fun _ => True) Pre.an (fun v12 _ => ?_)
        refine Pre.b1 (Ψ := fun _ => True) Pre.an (fun v14 _ => ?_)
        refine Pre.bd (Fr.w1 (K := KC) (I0 := I0) hI (fun _ => c_a5)) (fun I16 h_I16 => ?_)
        refine Pre.wv ?_
        exact ih _ _ _ _ c_y0 h_I16
theorem fr_LF_X6_warm_67 {N : Nat} (hpb : pb ≤ 1) : ∀ (k : Nat) (y0 : Nat) (y2 : Int32) (I : MI) {L : ML}, CO y0 → Fr KC I0 I → Pre (LF_X6_warm_67 N k y0 y2 I L (GRf pb)) (fun (r : MI) => Fr KC I0 r) := by
  intro k
  induction k with
  | zero =>
    intro y0 y2 I L c_y0 hI r hr
    rw [LF_X6_warm_67] at hr
    cases hr
  | succ k ih =>
    intro y0 y2 I L c_y0 hI
    rw [LF_X6_warm_67]
    refine Pre.bd (Ψ := CO) (rfC hpb c_y0) (fun a20 c_a20 => ?_)
    refine Pre.b1 (Ψ := fun _ => True) Pre.an (fun v21 _ => ?_)
    refine Pre.ite ?_ ?_
    ·
      exact Pre.so hI
    ·
      refine Pre.b1 (Ψ := (fun (r : Nat) => CO r)) (fr_F_X10_unitAt hpb _ _ _ c_a20 hI) (fun a24 h_a24 => ?_)
      refine Pre.ite ?_ Pre.no
      refine Pre.b1 (Ψ := fun _ => True) Pre.an (fun b27 _ => ?_)
      refine Pre.b1 (Ψ := (fun (r : MI) => Fr KC I0 r)) ?_ (fun I29 h_I29 => ?_)
      ·
        refine Pre.ite ?_ ?_
        ·
          exact Pre.so hI
        ·
          refine Pre.b1 (Ψ := (fun (r : Nat) => CO r)) (fr_F_X10_unitAt hpb _ _ _ c_a20 hI) (fun a33 h_a33 => ?_)
          refine Pre.ite ?_ Pre.no
          refine Pre.b1 (Ψ := (fun (r : MI) => Fr KC I0 r)) (fr_F_X6_leadHeat hpb _ _ _ c_y0 h_a33 hI) (fun I36 h_I36 => ?_)
          exact Pre.so h_I36
      ·
        refine Pre.wv ?_
        exact ih _ _ _ c_y0 h_I29
theorem fr_LF_X6_warm_114 {N : Nat} (hpb : pb ≤ 1) : ∀ (k : Nat) (y0 : Nat) (y2 : Int32) (I : MI) {L : ML}, CO y0 → Fr KC I0 I → Pre (LF_X6_warm_114 N k y0 y2 I L (GRf pb)) (fun (r : MI) => Fr KC I0 r) := by
  intro k
  induction k with
  | zero =>
    intro y0 y2 I L c_y0 hI r hr
    rw [LF_X6_warm_114] at hr
    cases hr
  | succ k ih =>
    intro y0 y2 I L c_y0 hI
    rw [LF_X6_warm_114]
    refine Pre.bd (Ψ := CO) (rfC hpb c_y0) (fun a41 c_a41 => ?_)
    refine Pre.b1 (Ψ := fun _ => True) Pre.an (fun v42 _ => ?_)
    refine Pre.ite ?_ ?_
    ·
      exact Pre.so hI
    ·
      refine Pre.bd (Ψ := CO) (rfC hpb c_y0) (fun a45 c_a45 => ?_)
      refine Pre.ite ?_ ?_
      ·
        exact Pre.so hI
      ·
        refine Pre.b1 (Ψ := (fun (r : Nat) => CO r)) (fr_F_X10_unitAt hpb _ _ _ c_a41 hI) (fun a47 h_a47 => ?_)
        refine Pre.ite ?_ Pre.no
        refine Pre.bd (Ψ := CO) (rfC hpb h_a47) (fun a50 c_a50 => ?_)
        refine Pre.bd (Ψ := fun _ => True) Pre.an (fun v51 _ => ?_)
        refine Pre.b1 (Ψ := fun _ => True) Pre.an (fun v52 _ => ?_)
        refine Pre.bd (Fr.w1 (K := KC) (I0 := I0) hI (fun _ => c_a50)) (fun I54 h_I54 => ?_)
        refine Pre.wv ?_
        exact ih _ _ _ c_y0 h_I54
theorem fr_F_X6_warm {N : Nat} (hpb : pb ≤ 1) (x0 : Nat) (x1 : Int32) (I : MI) (c_x0 : CO x0) (hI : Fr KC I0 I) : Pre (F_X6_warm N x0 x1 I L (GRf pb)) (fun (r : MI) => Fr KC I0 r) := by
  rw [F_X6_warm]
  refine Pre.ite ?_ Pre.no
  refine Pre.b1 (Ψ := (fun (r : MI) => Fr KC I0 r)) (fr_LF_X6_warm_2 hpb _ _ _ _ _ c_x0 hI) (fun z18 h_z18 => ?_)
  refine Pre.b1 (Ψ := (fun (r : MI) => Fr KC I0 r)) (fr_LF_X6_warm_67 hpb _ _ _ _ c_x0 h_z18) (fun z39 h_z39 => ?_)
  refine Pre.b1 (Ψ := (fun (r : MI) => Fr KC I0 r)) (fr_LF_X6_warm_114 hpb _ _ _ _ c_x0 h_z39) (fun z56 h_z56 => ?_)
  refine Pre.b1 (Ψ := (fun (r : MI) => Fr KC I0 r)) (fr_F_X6_breakUnits hpb _ _ c_x0 h_z56) (fun I58 h_I58 => ?_)
  refine Pre.b1 (Ψ := (fun (r : MI) => Fr KC I0 r)) (fr_F_X6_switchThermos hpb _ _ c_x0 h_I58) (fun I60 h_I60 => ?_)
  exact Pre.so h_I60
theorem fr_F_X2_fillFrame {N : Nat} (hpb : pb ≤ 1) (x0 : Nat) (x1 : Int32) (I : MI) (c_x0 : CO x0) (hI : Fr KC I0 I) : Pre (F_X2_fillFrame N x0 x1 I L (GRf pb)) (fun (r : MI) => Fr KC I0 r) := by
  rw [F_X2_fillFrame]
  refine Pre.ite ?_ Pre.no
  refine Pre.bd (Ψ := CO) (rfC hpb c_x0) (fun a1 c_a1 => ?_)
  refine Pre.bd (Fr.w1 (K := KC) (I0 := I0) hI (fun _ => c_a1)) (fun I2 h_I2 => ?_)
  refine Pre.b1 (Ψ := fun _ => True) Pre.an (fun v3 _ => ?_)
  refine Pre.bd (Fr.w1 (K := KC) (I0 := I0) h_I2 (fun _ => c_a1)) (fun I5 h_I5 => ?_)
  refine Pre.b1 (Ψ := fun _ => True) Pre.an (fun v6 _ => ?_)
  refine Pre.bd (Fr.w1 (K := KC) (I0 := I0) h_I5 (fun _ => c_a1)) (fun I8 h_I8 => ?_)
  refine Pre.bd (Fr.w1 (K := KC) (I0 := I0) h_I8 (fun _ => c_a1)) (fun I9 h_I9 => ?_)
  refine Pre.b1 (Ψ := fun _ => True) Pre.an (fun v10 _ => ?_)
  refine Pre.bd (Fr.w1 (K := KC) (I0 := I0) h_I9 (fun _ => c_a1)) (fun I12 h_I12 => ?_)
  refine Pre.bd (Fr.w1 (K := KC) (I0 := I0) h_I12 (fun _ => c_a1)) (fun I13 h_I13 => ?_)
  refine Pre.bd (Ψ := CO) (rfC hpb c_x0) (fun a14 c_a14 => ?_)
  refine Pre.b1 (Ψ := fun _ => True) Pre.an (fun v15 _ => ?_)
  refine Pre.bd (Fr.w1 (K := KC) (I0 := I0) h_I13 (fun _ => c_a1)) (fun I17 h_I17 => ?_)
  refine Pre.b1 (Ψ := fun _ => True) Pre.an (fun v18 _ => ?_)
  refine Pre.bd (Fr.w1 (K := KC) (I0 := I0) h_I17 (fun _ => c_a1)) (fun I20 h_I20 => ?_)
  refine Pre.b1 (Ψ := fun _ => True) Pre.an (fun v21 _ => ?_)
  refine Pre.bd (Fr.w1 (K := KC) (I0 := I0) h_I20 (fun _ => c_a1)) (fun I23 h_I23 => ?_)
  refine Pre.b1 (Ψ := fun _ => True) Pre.an (fun v24 _ => ?_)
  refine Pre.bd (Fr.w1 (K := KC) (I0 := I0) h_I23 (fun _ => c_a1)) (fun I26 h_I26 => ?_)
  refine Pre.b1 (Ψ := fun _ => True) Pre.an (fun v27 _ => ?_)
  refine Pre.bd (Fr.w1 (K := KC) (I0 := I0) h_I26 (fun _ => c_a1)) (fun I29 h_I29 => ?_)
  refine Pre.b1 (Ψ := fun _ => True) Pre.an (fun v30 _ => ?_)
  refine Pre.bd (Fr.w1 (K := KC) (I0 := I0) h_I29 (fun _ => c_a1)) (fun I32 h_I32 => ?_)
  exact Pre.so h_I32
theorem fr_LF_X2_keepFrame_47 {N : Nat} (hpb : pb ≤ 1) : ∀ (k : Nat) (y0 : Nat) (y3 : Nat) (y4 : Int32) (I : MI) {L : ML}, CO y0 → CO y3 → Fr KC I0 I → Pre (LF_X2_keepFrame_47 N k y0 y3 y4 I L (GRf pb)) (fun (r : MI) => Fr KC I0 r) := by
  intro k
  induction k with
  | zero =>
    intro y0 y3 y4 I L c_y0 c_y3 hI r hr
    rw [LF_X2_keepFrame_47] at hr
    cases hr
  | succ k ih =>
    intro y0 y3 y4 I L c_y0 c_y3 hI
    rw [LF_X2_keepFrame_47]
    refine Pre.bd (Ψ := CO) (rfC hpb c_y0) (fun a18 c_a18 => ?_)
    refine Pre.ite ?_ ?_
    ·
      exact Pre.so hI
    ·
      refine Pre.bd (Ψ := fun _ => True) Pre.an (fun v20 _ => ?_)
      refine Pre.b1 (Ψ := (fun (r : MI) => Fr KC I0 r)) (fr_F_X9_keepByte hpb _ _ _ c_y3 hI) (fun I21 h_I21 => ?_)
      refine Pre.wv ?_
      exact ih _ _ _ _ c_y0 c_y3 h_I21
theorem fr_LF_X2_keepFrame_2 {N : Nat} (hpb : pb ≤ 1) : ∀ (k : Nat) (y0 : Nat) (y1 : Int32) (y2 : Int32) (I : MI) {L : ML}, CO y0 → Fr KC I0 I → Pre (LF_X2_keepFrame_2 N k y0 y1 y2 I L (GRf pb)) (PS (fun (r : MI) => Fr KC I0 r) (fun (r : MI) => Fr KC I0 r)) := by
  intro k
  induction k with
  | zero =>
    intro y0 y1 y2 I L c_y0 hI r hr
    rw [LF_X2_keepFrame_2] at hr
    cases hr
  | succ k ih =>
    intro y0 y1 y2 I L c_y0 hI
    rw [LF_X2_keepFrame_2]
    refine Pre.bd (Ψ := CO) (rfC hpb c_y0) (fun a1 c_a1 => ?_)
    refine Pre.b1 (Ψ := fun _ => True) Pre.an (fun v2 _ => ?_)
    refine Pre.ite ?_ ?_
    ·
      exact Pre.so (show (fun (r : MI) => Fr KC I0 r) _ from hI)
    ·
      refine Pre.b1 (Ψ := (fun (r : Nat) => CO r)) (fr_F_X10_unitAt hpb _ _ _ c_a1 hI) (fun a5 h_a5 => ?_)
      refine Pre.ite ?_ Pre.no
      refine Pre.b1 (Ψ := fun _ => True) Pre.an (fun b8 _ => ?_)
      refine Pre.ite ?_ ?_
      ·
        refine Pre.wv ?_
        exact ih _ _ _ _ c_y0 hI
      ·
        refine Pre.b1 (Ψ := fun _ => True) Pre.an (fun b12 _ => ?_)
        refine Pre.ite ?_ ?_
        ·
          refine Pre.wv ?_
          exact ih _ _ _ _ c_y0 hI
        ·
          refine Pre.b1 (Ψ := (fun (r : MI) => Fr KC I0 r)) (fr_F_X2_fillFrame hpb _ _ _ c_y0 hI) (fun I16 h_I16 => ?_)
          refine Pre.b1 (Ψ := (fun (r : MI) => Fr KC I0 r)) (fr_LF_X2_keepFrame_47 hpb _ _ _ _ _ c_y0 h_a5 h_I16) (fun z24 h_z24 => ?_)
          refine Pre.wm (Fr.up (K := KC) (I0 := I0) h_z24 c_y0) (fun I26 h_I26 => ?_)
          exact Pre.so (show (fun (r : MI) => Fr KC I0 r) _ from h_I26)
theorem fr_F_X2_keepFrame {N : Nat} (hpb : pb ≤ 1) (x0 : Nat) (x1 : Int32) (I : MI) (c_x0 : CO x0) (hI : Fr KC I0 I) : Pre (F_X2_keepFrame N x0 x1 I L (GRf pb)) (fun (r : MI) => Fr KC I0 r) := by
  rw [F_X2_keepFrame]
  refine Pre.ite ?_ Pre.no
  refine Pre.bs (fr_LF_X2_keepFrame_2 hpb _ _ _ _ _ c_x0 hI) (fun z27 h_z27 => ?_) (fun z27 h_z27 => ?_)
  ·
    exact Pre.so h_z27
  ·
    refine Pre.wm (Fr.up (K := KC) (I0 := I0) h_z27 c_x0) (fun I29 h_I29 => ?_)
    exact Pre.so h_I29
theorem fr_F_X9_dropFirst (hpb : pb ≤ 1) (x0 : Nat) (I : MI) (c_x0 : CO x0) (hI : Fr KC I0 I) : Pre (F_X9_dropFirst x0 I L (GRf pb)) (fun (r : MI) => Fr KC I0 r) := by
  rw [F_X9_dropFirst]
  refine Pre.ite ?_ Pre.no
  refine Pre.b1 (Ψ := fun _ => True) Pre.an (fun v1 _ => ?_)
  refine Pre.wm (Fr.up (K := KC) (I0 := I0) hI c_x0) (fun I3 h_I3 => ?_)
  refine Pre.bd (Ψ := CO) (rfC hpb c_x0) (fun a4 c_a4 => ?_)
  refine Pre.bd (Ψ := fun _ => True) Pre.an (fun v5 _ => ?_)
  refine Pre.bd (Fr.w1 (K := KC) (I0 := I0) h_I3 (fun _ => c_a4)) (fun I6 h_I6 => ?_)
  exact Pre.so h_I6
theorem fr_LF_X2_sendKept_34 {N : Nat} (hpb : pb ≤ 1) : ∀ (k : Nat) (y0 : Nat) (y1 : Int32) (y2 : Int32) (y3 : Int32) (y4 : Nat) (I : MI) {L : ML}, CO y0 → CO y4 → Fr KC I0 I → Pre (LF_X2_sendKept_34 N k y0 y1 y2 y3 y4 I L (GRf pb)) (fun (r : Int32 × MI) => Fr KC I0 r.2) := by
  intro k
  induction k with
  | zero =>
    intro y0 y1 y2 y3 y4 I L c_y0 c_y4 hI r hr
    rw [LF_X2_sendKept_34] at hr
    cases hr
  | succ k ih =>
    intro y0 y1 y2 y3 y4 I L c_y0 c_y4 hI
    rw [LF_X2_sendKept_34]
    refine Pre.ite ?_ ?_
    ·
      exact Pre.so hI
    ·
      refine Pre.bd (Ψ := CO) (rfC hpb c_y4) (fun a16 c_a16 => ?_)
      refine Pre.bd (Ψ := fun _ => True) Pre.an (fun v17 _ => ?_)
      refine Pre.ite ?_ ?_
      ·
        exact Pre.so hI
      ·
        refine Pre.bd (Ψ := CO) (rfC hpb c_y0) (fun a19 c_a19 => ?_)
        refine Pre.b1 (Ψ := fun _ => True) Pre.an (fun v20 _ => ?_)
        refine Pre.b1 (Ψ := (fun (r : MI) => Fr KC I0 r)) (fr_F_X1_send hpb _ _ _ c_a19 hI) (fun I22 h_I22 => ?_)
        refine Pre.b1 (Ψ := (fun (r : MI) => Fr KC I0 r)) (fr_F_X9_dropFirst hpb _ _ c_y4 h_I22) (fun I24 h_I24 => ?_)
        refine Pre.wv ?_
        exact ih _ _ _ _ _ _ c_y0 c_y4 h_I24
theorem fr_LF_X2_sendKept_4 {N : Nat} (hpb : pb ≤ 1) : ∀ (k : Nat) (y0 : Nat) (y1 : Int32) (y2 : Int32) (y3 : Int32) (I : MI) {L : ML}, CO y0 → Fr KC I0 I → Pre (LF_X2_sendKept_4 N k y0 y1 y2 y3 I L (GRf pb)) (fun (r : Int32 × MI) => Fr KC I0 r.2) := by
  intro k
  induction k with
  | zero =>
    intro y0 y1 y2 y3 I L c_y0 hI r hr
    rw [LF_X2_sendKept_4] at hr
    cases hr
  | succ k ih =>
    intro y0 y1 y2 y3 I L c_y0 hI
    rw [LF_X2_sendKept_4]
    refine Pre.bd (Ψ := CO) (rfC hpb c_y0) (fun a1 c_a1 => ?_)
    refine Pre.b1 (Ψ := fun _ => True) Pre.an (fun v2 _ => ?_)
    refine Pre.ite ?_ ?_
    ·
      exact Pre.so hI
    ·
      refine Pre.b1 (Ψ := (fun (r : Nat) => CO r)) (fr_F_X10_unitAt hpb _ _ _ c_a1 hI) (fun a5 h_a5 => ?_)
      refine Pre.ite ?_ Pre.no
      refine Pre.b1 (Ψ := fun _ => True) Pre.an (fun b8 _ => ?_)
      refine Pre.b2 (Ψ := (fun (r : Int32 × MI) => Fr KC I0 r.2)) ?_ (fun u10 I11 h_I11 => ?_)
      ·
        refine Pre.ite ?_ ?_
        ·
          exact Pre.so hI
        ·
          refine Pre.b1 (Ψ := (fun (r : Int32 × MI) => Fr KC I0 r.2)) (fr_LF_X2_sendKept_34 hpb _ _ _ _ _ _ _ c_y0 h_a5 hI) (fun z27 h_z27 => ?_)
          exact Pre.so h_z27
      ·
        refine Pre.wv ?_
        exact ih _ _ _ _ _ c_y0 h_I11
theorem fr_F_X2_sendKept {N : Nat} (hpb : pb ≤ 1) (x0 : Nat) (x1 : Int32) (I : MI) (c_x0 : CO x0) (hI : Fr KC I0 I) : Pre (F_X2_sendKept N x0 x1 I L (GRf pb)) (fun (r : Int32 × MI) => Fr KC I0 r.2) := by
  rw [F_X2_sendKept]
  refine Pre.ite ?_ Pre.no
  refine Pre.b1 (Ψ := (fun (r : Int32 × MI) => Fr KC I0 r.2)) (fr_LF_X2_sendKept_4 hpb _ _ _ _ _ _ c_x0 hI) (fun z30 h_z30 => ?_)
  exact Pre.so h_z30
theorem fr_LF_X2_sendAll_18 {N : Nat} (hpb : pb ≤ 1) : ∀ (k : Nat) (y0 : Nat) (y1 : Int32) (y2 : Int32) (y3 : Int32) (I : MI) {L : ML}, CO y0 → Fr KC I0 I → Pre (LF_X2_sendAll_18 N k y0 y1 y2 y3 I L (GRf pb)) (fun (r : MI) => Fr KC I0 r) := by
  intro k
  induction k with
  | zero =>
    intro y0 y1 y2 y3 I L c_y0 hI r hr
    rw [LF_X2_sendAll_18] at hr
    cases hr
  | succ k ih =>
    intro y0 y1 y2 y3 I L c_y0 hI
    rw [LF_X2_sendAll_18]
    refine Pre.bd (Ψ := CO) (rfC hpb c_y0) (fun a6 c_a6 => ?_)
    refine Pre.b1 (Ψ := fun _ => True) Pre.an (fun v7 _ => ?_)
    refine Pre.ite ?_ ?_
    ·
      exact Pre.so hI
    ·
      refine Pre.b1 (Ψ := (fun (r : Nat) => CO r)) (fr_F_X10_unitAt hpb _ _ _ c_a6 hI) (fun a10 h_a10 => ?_)
      refine Pre.ite ?_ Pre.no
      refine Pre.b1 (Ψ := fun _ => True) Pre.an (fun b13 _ => ?_)
      refine Pre.b1 (Ψ := (fun (r : MI) => Fr KC I0 r)) ?_ (fun I15 h_I15 => ?_)
      ·
        refine Pre.ite ?_ ?_
        ·
          exact Pre.so hI
        ·
          refine Pre.b1 (Ψ := fun _ => True) Pre.an (fun b19 _ => ?_)
          refine Pre.b1 (Ψ := (fun (r : MI) => Fr KC I0 r)) ?_ (fun I21 h_I21 => ?_)
          ·
            refine Pre.ite ?_ ?_
            ·
              exact Pre.so hI
            ·
              refine Pre.bd (Ψ := CO) (rfC hpb h_a10) (fun a25 c_a25 => ?_)
              refine Pre.bd (Ψ := fun _ => True) Pre.an (fun v26 _ => ?_)
              refine Pre.b1 (Ψ := fun _ => True) Pre.an (fun b27 _ => ?_)
              refine Pre.b1 (Ψ := (fun (r : MI) => Fr KC I0 r)) ?_ (fun I29 h_I29 => ?_)
              ·
                refine Pre.ite ?_ ?_
                ·
                  exact Pre.so hI
                ·
                  refine Pre.bd (Ψ := CO) (rfC hpb c_y0) (fun a33 c_a33 => ?_)
                  refine Pre.b1 (Ψ := (fun (r : MI) => Fr KC I0 r)) (fr_F_X1_send hpb _ _ _ c_a33 hI) (fun I34 h_I34 => ?_)
                  refine Pre.bd (Ψ := fun _ => True) Pre.an (fun v36 _ => ?_)
                  refine Pre.bd (Fr.w1 (K := KC) (I0 := I0) h_I34 (fun _ => c_a25)) (fun I37 h_I37 => ?_)
                  exact Pre.so h_I37
              ·
                exact Pre.so h_I29
          ·
            refine Pre.b1 (Ψ := (fun (r : MI) => Fr KC I0 r)) ?_ (fun I38 h_I38 => ?_)
            ·
              refine Pre.ite ?_ ?_
              ·
                exact Pre.so h_I21
              ·
                refine Pre.bd (Ψ := CO) (rfC hpb h_a10) (fun a42 c_a42 => ?_)
                refine Pre.bd (Ψ := fun _ => True) Pre.an (fun v43 _ => ?_)
                refine Pre.bd (Ψ := fun _ => True) Pre.an (fun v44 _ => ?_)
                refine Pre.b2 (Ψ := (fun (r : Int32 × MI) => Fr KC I0 r.2)) (fr_F_X2_sendKept hpb _ _ _ c_y0 h_I21) (fun v45 I46 h_I46 => ?_)
                refine Pre.bd (Fr.w1 (K := KC) (I0 := I0) h_I46 (fun _ => c_a42)) (fun I48 h_I48 => ?_)
                exact Pre.so h_I48
            ·
              exact Pre.so h_I38
      ·
        refine Pre.wv ?_
        exact ih _ _ _ _ _ c_y0 h_I15
theorem fr_F_X2_sendAll {N : Nat} (hpb : pb ≤ 1) (x0 : Nat) (x1 : Int32) (I : MI) (c_x0 : CO x0) (hI : Fr KC I0 I) : Pre (F_X2_sendAll N x0 x1 I L (GRf pb)) (fun (r : MI) => Fr KC I0 r) := by
  rw [F_X2_sendAll]
  refine Pre.ite ?_ Pre.no
  refine Pre.b1 (Ψ := fun _ => True) Pre.an (fun v1 _ => ?_)
  refine Pre.b1 (Ψ := fun _ => True) Pre.an (fun b3 _ => ?_)
  refine Pre.wv ?_
  refine Pre.b1 (Ψ := (fun (r : MI) => Fr KC I0 r)) (fr_LF_X2_sendAll_18 hpb _ _ _ _ _ _ c_x0 hI) (fun z50 h_z50 => ?_)
  exact Pre.so h_z50
theorem fr_F_X3_clear (hpb : pb ≤ 1) (x0 : Nat) (I : MI) (c_x0 : CO x0) (hI : Fr KC I0 I) : Pre (F_X3_clear x0 I L (GRf pb)) (fun (r : MI) => Fr KC I0 r) := by
  rw [F_X3_clear]
  refine Pre.ite ?_ Pre.no
  refine Pre.wm (Fr.up (K := KC) (I0 := I0) hI c_x0) (fun I1 h_I1 => ?_)
  refine Pre.wm (Fr.up (K := KC) (I0 := I0) h_I1 c_x0) (fun I2 h_I2 => ?_)
  refine Pre.wm (Fr.up (K := KC) (I0 := I0) h_I2 c_x0) (fun I3 h_I3 => ?_)
  refine Pre.wm (Fr.up (K := KC) (I0 := I0) h_I3 c_x0) (fun I4 h_I4 => ?_)
  refine Pre.wm (Fr.up (K := KC) (I0 := I0) h_I4 c_x0) (fun I5 h_I5 => ?_)
  refine Pre.wm (Fr.up (K := KC) (I0 := I0) h_I5 c_x0) (fun I6 h_I6 => ?_)
  refine Pre.wm (Fr.up (K := KC) (I0 := I0) h_I6 c_x0) (fun I7 h_I7 => ?_)
  refine Pre.wm (Fr.up (K := KC) (I0 := I0) h_I7 c_x0) (fun I8 h_I8 => ?_)
  refine Pre.wm (Fr.up (K := KC) (I0 := I0) h_I8 c_x0) (fun I9 h_I9 => ?_)
  refine Pre.wm (Fr.up (K := KC) (I0 := I0) h_I9 c_x0) (fun I10 h_I10 => ?_)
  refine Pre.wm (Fr.up (K := KC) (I0 := I0) h_I10 c_x0) (fun I11 h_I11 => ?_)
  exact Pre.so h_I11
theorem fr_F_X8_takeNumber_ {N : Nat} (hpb : pb ≤ 1) (x0 : Nat) (x1 : Int32) (x2 : Int32) (I : MI) (c_x0 : CO x0) (hI : Fr KC I0 I) : Pre (F_X8_takeNumber_ N x0 x1 x2 I L (GRf pb)) (fun (r : Bool × MI × ML) => Fr KC I0 r.2.1) := by
  rw [F_X8_takeNumber_]
  refine Pre.ite ?_ Pre.no
  refine Pre.b2 (Ψ := (fun (r : MI × ML) => Fr KC I0 r.1)) (fr_F_X8_next hpb _ _ c_x0 hI) (fun I1 L2 h_L2 => ?_)
  refine Pre.ite ?_ ?_
  ·
    refine Pre.b1 (Ψ := fun _ => True) Pre.an (fun b5 _ => ?_)
    refine Pre.ite ?_ ?_
    ·
      refine Pre.b2 (Ψ := (fun (r : Bool × MI) => Fr KC I0 r.2)) (fr_F_X8_refuse hpb _ _ _ c_x0 h_L2) (fun b8 I9 h_I9 => ?_)
      refine Pre.ite ?_ ?_
      ·
        exact Pre.so h_I9
      ·
        exact Pre.so h_I9
    ·
      exact Pre.so h_L2
  ·
    refine Pre.b2 (Ψ := (fun (r : Bool × MI) => Fr KC I0 r.2)) (fr_F_X8_refuse hpb _ _ _ c_x0 h_L2) (fun b12 I13 h_I13 => ?_)
    exact Pre.so h_I13
theorem fr_F_X5_readName {N : Nat} (hpb : pb ≤ 1) (x0 : Nat) (x1 : Nat) (x2 : Nat) (x3 : Int32) (I : MI) (c_x0 : CO x0) (c_x1 : CO x1) (c_x2 : CO x2) (hI : Fr KC I0 I) : Pre (F_X5_readName N x0 x1 x2 x3 I L (GRf pb)) (fun (r : Int32 × MI × ML) => Fr KC I0 r.2.1) := by
  rw [F_X5_readName]
  refine Pre.ite ?_ Pre.no
  refine Pre.ite ?_ Pre.no
  refine Pre.ite ?_ Pre.no
  refine Pre.b2 (Ψ := (fun (r : MI × ML) => Fr KC I0 r.1)) (fr_F_X8_next hpb _ _ c_x1 hI) (fun I1 L2 h_L2 => ?_)
  refine Pre.b1 (Ψ := fun _ => True) Pre.an (fun b4 _ => ?_)
  refine Pre.ite ?_ ?_
  ·
    refine Pre.b2 (Ψ := (fun (r : Bool × MI) => Fr KC I0 r.2)) (fr_F_X8_refuse hpb _ _ _ c_x1 h_L2) (fun b24 I25 h_I25 => ?_)
    exact Pre.so h_I25
  ·
    refine Pre.b1 (Ψ := fun _ => True) Pre.an (fun v7 _ => ?_)
    refine Pre.b1 (Ψ := fun _ => True) Pre.an (fun v9 _ => ?_)
    refine Pre.ite ?_ ?_
    ·
      refine Pre.b2 (Ψ := (fun (r : Bool × MI) => Fr KC I0 r.2)) (fr_F_X8_refuse hpb _ _ _ c_x1 h_L2) (fun b12 I13 h_I13 => ?_)
      exact Pre.so h_I13
    ·
      refine Pre.b1 (Ψ := (fun (r : Nat) => CO r)) (fr_F_X10_unitAt hpb _ _ _ c_x2 h_L2) (fun a15 h_a15 => ?_)
      refine Pre.ite ?_ Pre.no
      refine Pre.b1 (Ψ := fun _ => True) Pre.an (fun b18 _ => ?_)
      refine Pre.ite ?_ ?_
      ·
        refine Pre.b2 (Ψ := (fun (r : Bool × MI) => Fr KC I0 r.2)) (fr_F_X8_refuse hpb _ _ _ c_x1 h_L2) (fun b21 I22 h_I22 => ?_)
        exact Pre.so h_I22
      ·
        exact Pre.so h_L2
theorem fr_F_X5_readBound {N : Nat} (hpb : pb ≤ 1) (x0 : Nat) (x1 : Nat) (x2 : Nat) (I : MI) (c_x0 : CO x0) (c_x1 : CO x1) (c_x2 : CO x2) (hI : Fr KC I0 I) : Pre (F_X5_readBound N x0 x1 x2 I L (GRf pb)) (fun (r : Bool × MI × ML) => Fr KC I0 r.2.1) := by
  rw [F_X5_readBound]
  refine Pre.ite ?_ Pre.no
  refine Pre.ite ?_ Pre.no
  refine Pre.ite ?_ Pre.no
  refine Pre.b2 (Ψ := (fun (r : MI × ML) => Fr KC I0 r.1)) (fr_F_X8_next hpb _ _ c_x1 hI) (fun I1 L2 h_L2 => ?_)
  refine Pre.b1 (Ψ := fun _ => True) Pre.an (fun b4 _ => ?_)
  refine Pre.ite ?_ ?_
  ·
    refine Pre.b1 (Ψ := fun _ => True) Pre.an (fun b23 _ => ?_)
    refine Pre.ite ?_ ?_
    ·
      refine Pre.b2 (Ψ := (fun (r : Bool × MI) => Fr KC I0 r.2)) (fr_F_X8_refuse hpb _ _ _ c_x1 h_L2) (fun b42 I43 h_I43 => ?_)
      exact Pre.so h_I43
    ·
      refine Pre.b1 (Ψ := fun _ => True) Pre.an (fun b26 _ => ?_)
      refine Pre.b1 (Ψ := fun _ => True) Pre.an (fun s28 _ => ?_)
      refine Pre.wm (Fr.up (K := KC) (I0 := I0) h_L2 c_x2) (fun I32 h_I32 => ?_)
      refine Pre.b3 (Ψ := (fun (r : Bool × MI × ML) => Fr KC I0 r.2.1)) (fr_F_X8_takeNumber hpb _ _ c_x1 h_I32) (fun b33 I34 L35 h_L35 => ?_)
      refine Pre.wv ?_
      refine Pre.b1 (Ψ := fun _ => True) Pre.an (fun v38 _ => ?_)
      refine Pre.wm (Fr.up (K := KC) (I0 := I0) h_L35 c_x2) (fun I40 h_I40 => ?_)
      refine Pre.bd (Ψ := fun _ => True) Pre.an (fun q41 _ => ?_)
      exact Pre.so h_I40
  ·
    refine Pre.b1 (Ψ := fun _ => True) Pre.an (fun b7 _ => ?_)
    refine Pre.b1 (Ψ := fun _ => True) Pre.an (fun s9 _ => ?_)
    refine Pre.wm (Fr.up (K := KC) (I0 := I0) h_L2 c_x2) (fun I13 h_I13 => ?_)
    refine Pre.b3 (Ψ := (fun (r : Bool × MI × ML) => Fr KC I0 r.2.1)) (fr_F_X8_takeNumber hpb _ _ c_x1 h_I13) (fun b14 I15 L16 h_L16 => ?_)
    refine Pre.wv ?_
    refine Pre.b1 (Ψ := fun _ => True) Pre.an (fun v19 _ => ?_)
    refine Pre.wm (Fr.up (K := KC) (I0 := I0) h_L16 c_x2) (fun I21 h_I21 => ?_)
    refine Pre.bd (Ψ := fun _ => True) Pre.an (fun q22 _ => ?_)
    exact Pre.so h_I21
theorem fr_F_X8_empty (hpb : pb ≤ 1) (x0 : Nat) (I : MI) (c_x0 : CO x0) (hI : Fr KC I0 I) : Pre (F_X8_empty x0 I L (GRf pb)) (fun (r : MI) => Fr KC I0 r) := by
  rw [F_X8_empty]
  refine Pre.ite ?_ Pre.no
  refine Pre.wm (Fr.up (K := KC) (I0 := I0) hI c_x0) (fun I1 h_I1 => ?_)
  exact Pre.so h_I1
theorem fr_LF_X8_append_3 {N : Nat} (hpb : pb ≤ 1) : ∀ (k : Nat) (y0 : Nat) (y1 : Int32) (y2 : Int32) (I : MI) {L : ML}, CO y0 → Fr KC I0 I → Pre (LF_X8_append_3 N k y0 y1 y2 I L (GRf pb)) (fun (r : MI) => Fr KC I0 r) := by
  intro k
  induction k with
  | zero =>
    intro y0 y1 y2 I L c_y0 hI r hr
    rw [LF_X8_append_3] at hr
    cases hr
  | succ k ih =>
    intro y0 y1 y2 I L c_y0 hI
    rw [LF_X8_append_3]
    refine Pre.ite ?_ ?_
    ·
      exact Pre.so hI
    ·
      refine Pre.bd (Ψ := CO) (rfC hpb c_y0) (fun a2 c_a2 => ?_)
      refine Pre.ite ?_ ?_
      ·
        exact Pre.so hI
      ·
        refine Pre.bd (Fr.w1 (K := KC) (I0 := I0) hI (fun _ => c_a2)) (fun I4 h_I4 => ?_)
        refine Pre.wm (Fr.up (K := KC) (I0 := I0) h_I4 c_y0) (fun I5 h_I5 => ?_)
        refine Pre.wv ?_
        exact ih _ _ _ _ c_y0 h_I5
theorem fr_F_X8_append {N : Nat} (hpb : pb ≤ 1) (x0 : Nat) (x1 : Int32) (I : MI) (c_x0 : CO x0) (hI : Fr KC I0 I) : Pre (F_X8_append N x0 x1 I L (GRf pb)) (fun (r : MI) => Fr KC I0 r) := by
  rw [F_X8_append]
  refine Pre.ite ?_ Pre.no
  refine Pre.b1 (Ψ := (fun (r : MI) => Fr KC I0 r)) (fr_LF_X8_append_3 hpb _ _ _ _ _ c_x0 hI) (fun z7 h_z7 => ?_)
  exact Pre.so h_z7
theorem fr_F_X8_begin (hpb : pb ≤ 1) (x0 : Nat) (x1 : Int32) (I : MI) (c_x0 : CO x0) (hI : Fr KC I0 I) : Pre (F_X8_begin x0 x1 I L (GRf pb)) (fun (r : MI) => Fr KC I0 r) := by
  rw [F_X8_begin]
  refine Pre.ite ?_ Pre.no
  refine Pre.wm (Fr.up (K := KC) (I0 := I0) hI c_x0) (fun I1 h_I1 => ?_)
  refine Pre.wm (Fr.up (K := KC) (I0 := I0) h_I1 c_x0) (fun I2 h_I2 => ?_)
  refine Pre.wm (Fr.up (K := KC) (I0 := I0) h_I2 c_x0) (fun I3 h_I3 => ?_)
  refine Pre.wm (Fr.up (K := KC) (I0 := I0) h_I3 c_x0) (fun I4 h_I4 => ?_)
  exact Pre.so h_I4
theorem fr_F_X11_feed {N : Nat} (hpb : pb ≤ 1) (x0 : Nat) (x1 : Int32) (x2 : Int32) (x3 : Int32) (x4 : Int32) (x5 : Int32) (I : MI) (c_x0 : CO x0) (hI : Fr KC I0 I) : Pre (F_X11_feed N x0 x1 x2 x3 x4 x5 I L (GRf pb)) (fun (r : Int32 × MI) => Fr KC I0 r.2) := by
  rw [F_X11_feed]
  refine Pre.ite ?_ Pre.no
  refine Pre.bd (Ψ := CO) (rfC hpb c_x0) (fun a1 c_a1 => ?_)
  refine Pre.b1 (Ψ := fun _ => True) Pre.an (fun b2 _ => ?_)
  refine Pre.ite ?_ ?_
  ·
    exact Pre.so hI
  ·
    refine Pre.b1 (Ψ := (fun (r : MI) => Fr KC I0 r)) (fr_F_X8_append hpb _ _ _ c_a1 hI) (fun I5 h_I5 => ?_)
    refine Pre.b1 (Ψ := (fun (r : MI) => Fr KC I0 r)) (fr_F_X8_append hpb _ _ _ c_a1 h_I5) (fun I7 h_I7 => ?_)
    refine Pre.b1 (Ψ := (fun (r : MI) => Fr KC I0 r)) (fr_F_X8_append hpb _ _ _ c_a1 h_I7) (fun I9 h_I9 => ?_)
    refine Pre.b1 (Ψ := (fun (r : MI) => Fr KC I0 r)) (fr_F_X8_append hpb _ _ _ c_a1 h_I9) (fun I11 h_I11 => ?_)
    refine Pre.b1 (Ψ := (fun (r : MI) => Fr KC I0 r)) (fr_F_X8_append hpb _ _ _ c_a1 h_I11) (fun I13 h_I13 => ?_)
    refine Pre.b1 (Ψ := fun _ => True) Pre.an (fun v15 _ => ?_)
    exact Pre.so h_I13
theorem fr_F_X6_shine (hpb : pb ≤ 1) (x0 : Nat) (x1 : Nat) (x2 : Int32) (x3 : Int32) (I : MI) (c_x0 : CO x0) (c_x1 : CO x1) (hI : Fr KC I0 I) : Pre (F_X6_shine x0 x1 x2 x3 I L (GRf pb)) (fun (r : Int32 × MI) => Fr KC I0 r.2) := by
  rw [F_X6_shine]
  refine Pre.ite ?_ Pre.no
  refine Pre.ite ?_ Pre.no
  refine Pre.bd (Ψ := CO) (rfC hpb c_x1) (fun a1 c_a1 => ?_)
  refine Pre.bd (Ψ := fun _ => True) Pre.an (fun v2 _ => ?_)
  refine Pre.b1 (Ψ := fun _ => True) Pre.an (fun v3 _ => ?_)
  refine Pre.b1 (Ψ := fun _ => True) Pre.an (fun b5 _ => ?_)
  refine Pre.b2 (Ψ := (fun (r : Int32 × MI) => Fr KC I0 r.2)) ?_ (fun u7 I8 h_I8 => ?_)
  ·
    refine Pre.ite ?_ ?_
    ·
      exact Pre.so hI
    ·
      refine Pre.bd (Ψ := fun _ => True) Pre.an (fun v12 _ => ?_)
      refine Pre.bd (Ψ := fun _ => True) Pre.an (fun v13 _ => ?_)
      refine Pre.b1 (Ψ := fun _ => True) Pre.an (fun v14 _ => ?_)
      refine Pre.b1 (Ψ := fun _ => True) Pre.an (fun v16 _ => ?_)
      refine Pre.b1 (Ψ := fun _ => True) Pre.an (fun v18 _ => ?_)
      refine Pre.bd (Fr.w1 (K := KC) (I0 := I0) hI (fun _ => c_a1)) (fun I20 h_I20 => ?_)
      refine Pre.bd (Ψ := fun _ => True) Pre.an (fun v21 _ => ?_)
      refine Pre.b1 (Ψ := fun _ => True) Pre.an (fun v22 _ => ?_)
      exact Pre.so h_I20
  ·
    refine Pre.b1 (Ψ := fun _ => True) Pre.an (fun v24 _ => ?_)
    refine Pre.wv ?_
    refine Pre.b1 (Ψ := fun _ => True) Pre.an (fun s27 _ => ?_)
    refine Pre.bd (Ψ := fun _ => True) Pre.an (fun v36 _ => ?_)
    exact Pre.so h_I8
theorem fr_LF_X6_power_8 {N : Nat} (hpb : pb ≤ 1) : ∀ (k : Nat) (y0 : Nat) (y1 : Int32) (y2 : Int32) (y3 : Int32) (y4 : Int32) (I : MI) {L : ML}, CO y0 → Fr KC I0 I → Pre (LF_X6_power_8 N k y0 y1 y2 y3 y4 I L (GRf pb)) (fun (r : MI) => Fr KC I0 r) := by
  intro k
  induction k with
  | zero =>
    intro y0 y1 y2 y3 y4 I L c_y0 hI r hr
    rw [LF_X6_power_8] at hr
    cases hr
  | succ k ih =>
    intro y0 y1 y2 y3 y4 I L c_y0 hI
    rw [LF_X6_power_8]
    refine Pre.bd (Ψ := CO) (rfC hpb c_y0) (fun a2 c_a2 => ?_)
    refine Pre.b1 (Ψ := fun _ => True) Pre.an (fun v3 _ => ?_)
    refine Pre.ite ?_ ?_
    ·
      exact Pre.so hI
    ·
      refine Pre.b1 (Ψ := (fun (r : Nat) => CO r)) (fr_F_X10_unitAt hpb _ _ _ c_a2 hI) (fun a6 h_a6 => ?_)
      refine Pre.ite ?_ Pre.no
      refine Pre.b1 (Ψ := fun _ => True) Pre.an (fun b9 _ => ?_)
      refine Pre.b1 (Ψ := (fun (r : MI) => Fr KC I0 r)) ?_ (fun I11 h_I11 => ?_)
      ·
        refine Pre.ite ?_ ?_
        ·
          exact Pre.so hI
        ·
          refine Pre.b1 (Ψ := fun _ => True) Pre.an (fun b15 _ => ?_)
          refine Pre.b2 (Ψ := (fun (r : Int32 × MI) => Fr KC I0 r.2)) ?_ (fun s17 I18 h_I18 => ?_)
          ·
            refine Pre.ite ?_ ?_
            ·
              refine Pre.b2 (Ψ := (fun (r : Int32 × MI) => Fr KC I0 r.2)) (fr_F_X6_shine hpb _ _ _ _ _ c_y0 h_a6 hI) (fun v22 I23 h_I23 => ?_)
              exact Pre.so h_I23
            ·
              refine Pre.b2 (Ψ := (fun (r : Int32 × MI) => Fr KC I0 r.2)) (fr_F_X6_burn hpb _ _ _ _ c_y0 h_a6 hI) (fun v25 I26 h_I26 => ?_)
              exact Pre.so h_I26
          ·
            refine Pre.wm (Fr.up (K := KC) (I0 := I0) h_I18 c_y0) (fun I28 h_I28 => ?_)
            exact Pre.so h_I28
      ·
        refine Pre.wv ?_
        exact ih _ _ _ _ _ _ c_y0 h_I11
theorem fr_LF_X6_power_92 {N : Nat} (hpb : pb ≤ 1) : ∀ (k : Nat) (y0 : Nat) (y4 : Int32) (I : MI) {L : ML}, CO y0 → Fr KC I0 I → Pre (LF_X6_power_92 N k y0 y4 I L (GRf pb)) (fun (r : MI) => Fr KC I0 r) := by
  intro k
  induction k with
  | zero =>
    intro y0 y4 I L c_y0 hI r hr
    rw [LF_X6_power_92] at hr
    cases hr
  | succ k ih =>
    intro y0 y4 I L c_y0 hI
    rw [LF_X6_power_92]
    refine Pre.bd (Ψ := CO) (rfC hpb c_y0) (fun a33 c_a33 => ?_)
    refine Pre.b1 (Ψ := fun _ => True) Pre.an (fun v34 _ => ?_)
    refine Pre.ite ?_ ?_
    ·
      exact Pre.so hI
    ·
      refine Pre.b1 (Ψ := (fun (r : Nat) => CO r)) (fr_F_X10_unitAt hpb _ _ _ c_a33 hI) (fun a37 h_a37 => ?_)
      refine Pre.ite ?_ Pre.no
      refine Pre.b1 (Ψ := fun _ => True) Pre.an (fun b40 _ => ?_)
      refine Pre.b1 (Ψ := (fun (r : MI) => Fr KC I0 r)) ?_ (fun I42 h_I42 => ?_)
      ·
        refine Pre.ite ?_ ?_
        ·
          refine Pre.b1 (Ψ := fun _ => True) Pre.an (fun b49 _ => ?_)
          refine Pre.b1 (Ψ := (fun (r : MI) => Fr KC I0 r)) ?_ (fun I51 h_I51 => ?_)
          ·
            refine Pre.ite ?_ ?_
            ·
              exact Pre.so hI
            ·
              refine Pre.b1 (Ψ := fun _ => True) Pre.an (fun v55 _ => ?_)
              refine Pre.wm (Fr.up (K := KC) (I0 := I0) hI c_y0) (fun I57 h_I57 => ?_)
              exact Pre.so h_I57
          ·
            exact Pre.so h_I51
        ·
          refine Pre.b1 (Ψ := fun _ => True) Pre.an (fun v46 _ => ?_)
          refine Pre.wm (Fr.up (K := KC) (I0 := I0) hI c_y0) (fun I48 h_I48 => ?_)
          exact Pre.so h_I48
      ·
        refine Pre.wv ?_
        exact ih _ _ _ c_y0 h_I42
theorem fr_F_X6_power {N : Nat} (hpb : pb ≤ 1) (x0 : Nat) (x1 : Int32) (x2 : Int32) (x3 : Int32) (I : MI) (c_x0 : CO x0) (hI : Fr KC I0 I) : Pre (F_X6_power N x0 x1 x2 x3 I L (GRf pb)) (fun (r : MI) => Fr KC I0 r) := by
  rw [F_X6_power]
  refine Pre.ite ?_ Pre.no
  refine Pre.wm (Fr.up (K := KC) (I0 := I0) hI c_x0) (fun I1 h_I1 => ?_)
  refine Pre.b1 (Ψ := (fun (r : MI) => Fr KC I0 r)) (fr_LF_X6_power_8 hpb _ _ _ _ _ _ _ c_x0 h_I1) (fun z30 h_z30 => ?_)
  refine Pre.wm (Fr.up (K := KC) (I0 := I0) h_z30 c_x0) (fun I32 h_I32 => ?_)
  refine Pre.b1 (Ψ := (fun (r : MI) => Fr KC I0 r)) (fr_LF_X6_power_92 hpb _ _ _ _ c_x0 h_I32) (fun z59 h_z59 => ?_)
  refine Pre.b2 (Ψ := (fun (r : Int32 × MI) => Fr KC I0 r.2)) (fr_F_X6_balance hpb _ _ _ c_x0 h_z59) (fun v61 I62 h_I62 => ?_)
  refine Pre.ite ?_ ?_
  ·
    exact Pre.so h_I62
  ·
    refine Pre.wm (Fr.up (K := KC) (I0 := I0) h_I62 c_x0) (fun I65 h_I65 => ?_)
    refine Pre.b1 (Ψ := (fun (r : MI) => Fr KC I0 r)) (fr_F_X6_shed hpb _ _ c_x0 h_I65) (fun I66 h_I66 => ?_)
    exact Pre.so h_I66
theorem fr_F_X2_tick {N : Nat} (hpb : pb ≤ 1) (x0 : Nat) (I : MI) (c_x0 : CO x0) (hI : Fr KC I0 I) : Pre (F_X2_tick N x0 I L (GRf pb)) (fun (r : MI) => Fr KC I0 r) := by
  rw [F_X2_tick]
  refine Pre.ite ?_ Pre.no
  refine Pre.wv ?_
  refine Pre.bd (Ψ := CO) (rfC hpb c_x0) (fun a2 c_a2 => ?_)
  refine Pre.b1 (Ψ := fun _ => True) Pre.an (fun v3 _ => ?_)
  refine Pre.b1 (Ψ := fun _ => True) Pre.an (fun v5 _ => ?_)
  refine Pre.wv ?_
  refine Pre.b1 (Ψ := fun _ => True) Pre.an (fun v8 _ => ?_)
  refine Pre.b1 (Ψ := fun _ => True) Pre.an (fun v10 _ => ?_)
  refine Pre.wm (Fr.up (K := KC) (I0 := I0) hI c_x0) (fun I12 h_I12 => ?_)
  refine Pre.b1 (Ψ := (fun (r : MI) => Fr KC I0 r)) (fr_F_X2_doItems hpb _ _ _ c_x0 h_I12) (fun I13 h_I13 => ?_)
  refine Pre.b1 (Ψ := (fun (r : MI) => Fr KC I0 r)) (fr_F_X2_takeReadings hpb _ _ _ c_x0 h_I13) (fun I15 h_I15 => ?_)
  refine Pre.b1 (Ψ := (fun (r : MI) => Fr KC I0 r)) ?_ (fun I17 h_I17 => ?_)
  ·
    refine Pre.ite ?_ ?_
    ·
      refine Pre.b1 (Ψ := (fun (r : MI) => Fr KC I0 r)) (fr_F_X2_saveLine hpb _ _ c_x0 h_I15) (fun I34 h_I34 => ?_)
      exact Pre.so h_I34
    ·
      refine Pre.b1 (Ψ := (fun (r : MI) => Fr KC I0 r)) ?_ (fun I21 h_I21 => ?_)
      ·
        refine Pre.ite ?_ ?_
        ·
          exact Pre.so h_I15
        ·
          refine Pre.b1 (Ψ := fun _ => True) Pre.an (fun b25 _ => ?_)
          refine Pre.b1 (Ψ := (fun (r : MI) => Fr KC I0 r)) ?_ (fun I27 h_I27 => ?_)
          ·
            refine Pre.ite ?_ ?_
            ·
              exact Pre.so h_I15
            ·
              refine Pre.bd (Ψ := CO) (rfC hpb c_x0) (fun a31 c_a31 => ?_)
              refine Pre.b1 (Ψ := (fun (r : MI) => Fr KC I0 r)) (fr_F_X7_steer hpb _ _ _ _ c_a31 h_I15) (fun I32 h_I32 => ?_)
              exact Pre.so h_I32
          ·
            exact Pre.so h_I27
      ·
        exact Pre.so h_I21
  ·
    refine Pre.bd (Ψ := CO) (rfC hpb c_x0) (fun a36 c_a36 => ?_)
    refine Pre.b1 (Ψ := (fun (r : MI) => Fr KC I0 r)) (fr_F_X7_turn hpb _ _ _ c_a36 h_I17) (fun I37 h_I37 => ?_)
    refine Pre.b1 (Ψ := fun _ => True) Pre.an (fun v39 _ => ?_)
    refine Pre.b1 (Ψ := (fun (r : MI) => Fr KC I0 r)) (fr_F_X6_power hpb _ _ _ _ _ c_a2 h_I37) (fun I41 h_I41 => ?_)
    refine Pre.b1 (Ψ := (fun (r : MI) => Fr KC I0 r)) (fr_F_X6_levelTanks hpb _ _ c_a2 h_I41) (fun I43 h_I43 => ?_)
    refine Pre.b1 (Ψ := (fun (r : MI) => Fr KC I0 r)) (fr_F_X6_warm hpb _ _ _ c_a2 h_I43) (fun I45 h_I45 => ?_)
    refine Pre.b1 (Ψ := fun _ => True) Pre.an (fun v47 _ => ?_)
    refine Pre.b1 (Ψ := (fun (r : MI) => Fr KC I0 r)) ?_ (fun I49 h_I49 => ?_)
    ·
      refine Pre.ite ?_ ?_
      ·
        refine Pre.b1 (Ψ := (fun (r : MI) => Fr KC I0 r)) (fr_F_X2_keepFrame hpb _ _ _ c_x0 h_I45) (fun I53 h_I53 => ?_)
        exact Pre.so h_I53
      ·
        exact Pre.so h_I45
    ·
      refine Pre.b1 (Ψ := (fun (r : MI) => Fr KC I0 r)) (fr_F_X2_sendAll hpb _ _ _ c_x0 h_I49) (fun I55 h_I55 => ?_)
      refine Pre.b1 (Ψ := (fun (r : MI) => Fr KC I0 r)) ?_ (fun I57 h_I57 => ?_)
      ·
        refine Pre.ite ?_ ?_
        ·
          exact Pre.so h_I55
        ·
          refine Pre.b1 (Ψ := fun _ => True) Pre.an (fun v61 _ => ?_)
          refine Pre.b1 (Ψ := fun _ => True) Pre.an (fun v63 _ => ?_)
          refine Pre.b1 (Ψ := (fun (r : MI) => Fr KC I0 r)) ?_ (fun I65 h_I65 => ?_)
          ·
            refine Pre.ite ?_ ?_
            ·
              exact Pre.so h_I55
            ·
              refine Pre.wm (Fr.up (K := KC) (I0 := I0) h_I55 c_x0) (fun I69 h_I69 => ?_)
              exact Pre.so h_I69
          ·
            exact Pre.so h_I65
      ·
        refine Pre.wm (Fr.up (K := KC) (I0 := I0) h_I57 c_x0) (fun I70 h_I70 => ?_)
        exact Pre.so h_I70
theorem fr_LF_X9_stackLayers_14 {N : Nat} (hpb : pb ≤ 1) : ∀ (k : Nat) (y0 : Nat) (y1 : Int32) (y2 : Int32) (y3 : Int32) (I : MI) {L : ML}, CO y0 → Fr KC I0 I → Pre (LF_X9_stackLayers_14 N k y0 y1 y2 y3 I L (GRf pb)) (fun (r : MI) => Fr KC I0 r) := by
  intro k
  induction k with
  | zero =>
    intro y0 y1 y2 y3 I L c_y0 hI r hr
    rw [LF_X9_stackLayers_14] at hr
    cases hr
  | succ k ih =>
    intro y0 y1 y2 y3 I L c_y0 hI
    rw [LF_X9_stackLayers_14]
    refine Pre.ite ?_ ?_
    ·
      exact Pre.so hI
    ·
      refine Pre.ite ?_ ?_
      ·
        exact Pre.so hI
      ·
        refine Pre.ite ?_ ?_
        ·
          exact Pre.so hI
        ·
          refine Pre.wm (Fr.up (K := KC) (I0 := I0) hI c_y0) (fun I6 h_I6 => ?_)
          refine Pre.bd (Ψ := fun _ => True) Pre.an (fun v7 _ => ?_)
          refine Pre.wv ?_
          exact ih _ _ _ _ _ c_y0 h_I6
theorem fr_LF_X9_stackLayers_57 {N : Nat} (hpb : pb ≤ 1) : ∀ (k : Nat) (y0 : Nat) (y1 : Int32) (y3 : Int32) (I : MI) {L : ML}, CO y0 → Fr KC I0 I → Pre (LF_X9_stackLayers_57 N k y0 y1 y3 I L (GRf pb)) (fun (r : MI) => Fr KC I0 r) := by
  intro k
  induction k with
  | zero =>
    intro y0 y1 y3 I L c_y0 hI r hr
    rw [LF_X9_stackLayers_57] at hr
    cases hr
  | succ k ih =>
    intro y0 y1 y3 I L c_y0 hI
    rw [LF_X9_stackLayers_57]
    refine Pre.ite ?_ ?_
    ·
      exact Pre.so hI
    ·
      refine Pre.b1 (Ψ := fun _ => True) Pre.an (fun b12 _ => ?_)
      refine Pre.b1 (Ψ := (fun (r : MI) => Fr KC I0 r)) ?_ (fun I14 h_I14 => ?_)
      ·
        refine Pre.ite ?_ ?_
        ·
          exact Pre.so hI
        ·
          refine Pre.bd (Ψ := CO) (rfC hpb c_y0) (fun a18 c_a18 => ?_)
          refine Pre.b1 (Ψ := (fun (r : MI) => Fr KC I0 r)) ?_ (fun I19 h_I19 => ?_)
          ·
            refine Pre.ite ?_ ?_
            ·
              exact Pre.so hI
            ·
              refine Pre.bd (Fr.w1 (K := KC) (I0 := I0) hI (fun _ => c_a18)) (fun I23 h_I23 => ?_)
              refine Pre.wm (Fr.up (K := KC) (I0 := I0) h_I23 c_y0) (fun I24 h_I24 => ?_)
              exact Pre.so h_I24
          ·
            exact Pre.so h_I19
      ·
        refine Pre.wv ?_
        exact ih _ _ _ _ c_y0 h_I14
theorem fr_F_X9_stackLayers {N : Nat} (hpb : pb ≤ 1) (x0 : Nat) (x1 : Int32) (I : MI) (c_x0 : CO x0) (hI : Fr KC I0 I) : Pre (F_X9_stackLayers N x0 x1 I L (GRf pb)) (fun (r : MI) => Fr KC I0 r) := by
  rw [F_X9_stackLayers]
  refine Pre.ite ?_ Pre.no
  refine Pre.wm (Fr.up (K := KC) (I0 := I0) hI c_x0) (fun I1 h_I1 => ?_)
  refine Pre.wm (Fr.up (K := KC) (I0 := I0) h_I1 c_x0) (fun I2 h_I2 => ?_)
  refine Pre.b1 (Ψ := (fun (r : MI) => Fr KC I0 r)) (fr_LF_X9_stackLayers_14 hpb _ _ _ _ _ _ c_x0 h_I2) (fun z9 h_z9 => ?_)
  refine Pre.b1 (Ψ := (fun (r : MI) => Fr KC I0 r)) (fr_LF_X9_stackLayers_57 hpb _ _ _ _ _ c_x0 h_z9) (fun z26 h_z26 => ?_)
  refine Pre.bd (Ψ := CO) (rfC hpb c_x0) (fun a28 c_a28 => ?_)
  refine Pre.bd (Fr.w1 (K := KC) (I0 := I0) h_z26 (fun _ => c_a28)) (fun I29 h_I29 => ?_)
  exact Pre.so h_I29
theorem fr_F_X9_describe {N : Nat} (hpb : pb ≤ 1) (x0 : Nat) (x1 : Nat) (x2 : Int32) (I : MI) (c_x0 : CO x0) (c_x1 : CO x1) (hI : Fr KC I0 I) : Pre (F_X9_describe N x0 x1 x2 I L (GRf pb)) (fun (r : MI × ML) => Fr KC I0 r.1) := by
  rw [F_X9_describe]
  refine Pre.ite ?_ Pre.no
  refine Pre.ite ?_ Pre.no
  refine Pre.b1 (Ψ := fun _ => True) Pre.an (fun v1 _ => ?_)
  refine Pre.wv ?_
  refine Pre.b1 (Ψ := fun _ => True) Pre.an (fun v4 _ => ?_)
  refine Pre.wm (Fr.up (K := KC) (I0 := I0) hI c_x0) (fun I6 h_I6 => ?_)
  refine Pre.b1 (Ψ := fun _ => True) Pre.an (fun v7 _ => ?_)
  refine Pre.wm (Fr.up (K := KC) (I0 := I0) h_I6 c_x0) (fun I9 h_I9 => ?_)
  refine Pre.b1 (Ψ := fun _ => True) Pre.an (fun v10 _ => ?_)
  refine Pre.wm (Fr.up (K := KC) (I0 := I0) h_I9 c_x0) (fun I12 h_I12 => ?_)
  refine Pre.b1 (Ψ := fun _ => True) Pre.an (fun v13 _ => ?_)
  refine Pre.b1 (Ψ := (fun (r : MI) => Fr KC I0 r)) (fr_F_X9_stackLayers hpb _ _ _ c_x0 h_I12) (fun I15 h_I15 => ?_)
  exact Pre.so h_I15
theorem fr_LF_X10_build_35 {N : Nat} (hpb : pb ≤ 1) : ∀ (k : Nat) (y0 : Nat) (y1 : Nat) (y2 : Int32) (I : MI) {L : ML}, CO y0 → CO y1 → Fr KC I0 I → Pre (LF_X10_build_35 N k y0 y1 y2 I L (GRf pb)) (fun (r : MI × ML) => Fr KC I0 r.1) := by
  intro k
  induction k with
  | zero =>
    intro y0 y1 y2 I L c_y0 c_y1 hI r hr
    rw [LF_X10_build_35] at hr
    cases hr
  | succ k ih =>
    intro y0 y1 y2 I L c_y0 c_y1 hI
    rw [LF_X10_build_35]
    refine Pre.ite ?_ ?_
    ·
      exact Pre.so hI
    ·
      refine Pre.b1 (Ψ := (fun (r : Nat) => CO r)) (fr_F_X10_unitAt hpb _ _ _ c_y0 hI) (fun a10 h_a10 => ?_)
      refine Pre.ite ?_ Pre.no
      refine Pre.b2 (Ψ := (fun (r : MI × ML) => Fr KC I0 r.1)) (fr_F_X9_describe hpb _ _ _ _ h_a10 c_y1 hI) (fun I13 L14 h_L14 => ?_)
      refine Pre.b1 (Ψ := (fun (r : Nat) => CO r)) (fr_F_X10_unitAt hpb _ _ _ c_y0 h_L14) (fun a16 h_a16 => ?_)
      refine Pre.ite ?_ Pre.no
      refine Pre.b1 (Ψ := (fun (r : MI) => Fr KC I0 r)) (fr_F_X10_make hpb _ _ _ _ c_y0 h_a16 h_L14) (fun I19 h_I19 => ?_)
      refine Pre.wv ?_
      exact ih _ _ _ _ c_y0 c_y1 h_I19
theorem fr_LF_X10_build_71 {N : Nat} (hpb : pb ≤ 1) : ∀ (k : Nat) (y0 : Nat) (y2 : Int32) (I : MI) {L : ML}, CO y0 → Fr KC I0 I → Pre (LF_X10_build_71 N k y0 y2 I L (GRf pb)) (fun (r : MI) => Fr KC I0 r) := by
  intro k
  induction k with
  | zero =>
    intro y0 y2 I L c_y0 hI r hr
    rw [LF_X10_build_71] at hr
    cases hr
  | succ k ih =>
    intro y0 y2 I L c_y0 hI
    rw [LF_X10_build_71]
    refine Pre.ite ?_ ?_
    ·
      exact Pre.so hI
    ·
      refine Pre.b1 (Ψ := (fun (r : Nat) => CO r)) (fr_F_X10_unitAt hpb _ _ _ c_y0 hI) (fun a25 h_a25 => ?_)
      refine Pre.ite ?_ Pre.no
      refine Pre.b1 (Ψ := (fun (r : MI) => Fr KC I0 r)) (fr_F_X10_judge hpb _ _ _ c_y0 h_a25 hI) (fun I28 h_I28 => ?_)
      refine Pre.wv ?_
      exact ih _ _ _ c_y0 h_I28
theorem fr_F_X10_build {N : Nat} (hpb : pb ≤ 1) (x0 : Nat) (x1 : Nat) (I : MI) (c_x0 : CO x0) (c_x1 : CO x1) (hI : Fr KC I0 I) : Pre (F_X10_build N x0 x1 I L (GRf pb)) (fun (r : MI × ML) => Fr KC I0 r.1) := by
  rw [F_X10_build]
  refine Pre.ite ?_ Pre.no
  refine Pre.ite ?_ Pre.no
  refine Pre.b1 (Ψ := fun _ => True) Pre.an (fun v1 _ => ?_)
  refine Pre.wm (Fr.up (K := KC) (I0 := I0) hI c_x0) (fun I3 h_I3 => ?_)
  refine Pre.wm (Fr.up (K := KC) (I0 := I0) h_I3 c_x0) (fun I4 h_I4 => ?_)
  refine Pre.wm (Fr.up (K := KC) (I0 := I0) h_I4 c_x0) (fun I5 h_I5 => ?_)
  refine Pre.wm (Fr.up (K := KC) (I0 := I0) h_I5 c_x0) (fun I6 h_I6 => ?_)
  refine Pre.wm (Fr.up (K := KC) (I0 := I0) h_I6 c_x0) (fun I7 h_I7 => ?_)
  refine Pre.wm (Fr.up (K := KC) (I0 := I0) h_I7 c_x0) (fun I8 h_I8 => ?_)
  refine Pre.b1 (Ψ := (fun (r : MI × ML) => Fr KC I0 r.1)) (fr_LF_X10_build_35 hpb _ _ _ _ _ c_x0 c_x1 h_I8) (fun z22 h_z22 => ?_)
  refine Pre.b1 (Ψ := (fun (r : MI) => Fr KC I0 r)) (fr_LF_X10_build_71 hpb _ _ _ _ c_x0 h_z22) (fun z31 h_z31 => ?_)
  exact Pre.so h_z31
theorem fr_LF_X0_readNumbers_2 {N : Nat} (hpb : pb ≤ 1) : ∀ (k : Nat) (y0 : Nat) (y1 : Nat) (y2 : Nat) (y3 : Int32) (I : MI) {L : ML}, CO y0 → CO y1 → CO y2 → Fr KC I0 I → Pre (LF_X0_readNumbers_2 N k y0 y1 y2 y3 I L (GRf pb)) (PS (fun (r : Bool × MI × ML) => Fr KC I0 r.2.1) (fun (r : MI × ML) => Fr KC I0 r.1)) := by
  intro k
  induction k with
  | zero =>
    intro y0 y1 y2 y3 I L c_y0 c_y1 c_y2 hI r hr
    rw [LF_X0_readNumbers_2] at hr
    cases hr
  | succ k ih =>
    intro y0 y1 y2 y3 I L c_y0 c_y1 c_y2 hI
    rw [LF_X0_readNumbers_2]
    refine Pre.ite ?_ ?_
    ·
      exact Pre.so (show (fun (r : MI × ML) => Fr KC I0 r.1) _ from hI)
    ·
      refine Pre.b1 (Ψ := fun _ => True) Pre.an (fun v2 _ => ?_)
      refine Pre.wv ?_
      refine Pre.ite ?_ ?_
      ·
        exact Pre.so (show (fun (r : Bool × MI × ML) => Fr KC I0 r.2.1) _ from hI)
      ·
        refine Pre.ite ?_ ?_
        ·
          exact Pre.so (show (fun (r : Bool × MI × ML) => Fr KC I0 r.2.1) _ from hI)
        ·
          refine Pre.bd (Ψ := CO) (rfC hpb c_y0) (fun a7 c_a7 => ?_)
          refine Pre.ite ?_ ?_
          ·
            refine Pre.b3 (Ψ := (fun (r : Bool × MI × ML) => Fr KC I0 r.2.1)) (fr_F_X8_takeNumber hpb _ _ c_y1 hI) (fun b9 I10 L11 h_L11 => ?_)
            refine Pre.ite ?_ ?_
            ·
              exact Pre.so (show (fun (r : Bool × MI × ML) => Fr KC I0 r.2.1) _ from h_L11)
            ·
              refine Pre.b1 (Ψ := fun _ => True) Pre.an (fun v14 _ => ?_)
              refine Pre.b1 (Ψ := fun _ => True) Pre.an (fun b16 _ => ?_)
              refine Pre.ite ?_ ?_
              ·
                refine Pre.b2 (Ψ := (fun (r : Bool × MI) => Fr KC I0 r.2)) (fr_F_X8_refuse hpb _ _ _ c_y1 h_L11) (fun b23 I24 h_I24 => ?_)
                exact Pre.so (show (fun (r : Bool × MI × ML) => Fr KC I0 r.2.1) _ from h_I24)
              ·
                refine Pre.b1 (Ψ := fun _ => True) Pre.an (fun v19 _ => ?_)
                refine Pre.bd (Fr.w1 (K := KC) (I0 := I0) h_L11 (fun _ => c_a7)) (fun I21 h_I21 => ?_)
                refine Pre.wv ?_
                exact ih _ _ _ _ _ c_y0 c_y1 c_y2 h_I21
          ·
            exact Pre.so (show (fun (r : Bool × MI × ML) => Fr KC I0 r.2.1) _ from hI)
theorem fr_F_X0_readNumbers {N : Nat} (hpb : pb ≤ 1) (x0 : Nat) (x1 : Nat) (x2 : Nat) (I : MI) (c_x0 : CO x0) (c_x1 : CO x1) (c_x2 : CO x2) (hI : Fr KC I0 I) : Pre (F_X0_readNumbers N x0 x1 x2 I L (GRf pb)) (fun (r : Bool × MI × ML) => Fr KC I0 r.2.1) := by
  rw [F_X0_readNumbers]
  refine Pre.ite ?_ Pre.no
  refine Pre.ite ?_ Pre.no
  refine Pre.itep (fun g_x2 => ?_) Pre.no
  have c_x2 : CO x2 := Or.inr (by omega)
  refine Pre.bs (fr_LF_X0_readNumbers_2 hpb _ _ _ _ _ _ c_x0 c_x1 c_x2 hI) (fun z26 h_z26 => ?_) (fun z26 h_z26 => ?_)
  ·
    exact Pre.so h_z26
  ·
    exact Pre.so h_z26
theorem fr_F_X0_readUnit {N : Nat} (hpb : pb ≤ 1) (x0 : Nat) (x1 : Nat) (I : MI) (c_x0 : CO x0) (c_x1 : CO x1) (hI : Fr KC I0 I) : Pre (F_X0_readUnit N x0 x1 I L (GRf pb)) (fun (r : Bool × MI × ML) => Fr KC I0 r.2.1) := by
  rw [F_X0_readUnit]
  refine Pre.ite ?_ Pre.no
  refine Pre.ite ?_ Pre.no
  refine Pre.b1 (Ψ := fun _ => True) Pre.an (fun o1 _ => ?_)
  refine Pre.bo ?_ (fun a3 => ?_)
  ·
    refine Pre.b2 (Ψ := (fun (r : Bool × MI) => Fr KC I0 r.2)) (fr_F_X8_refuse hpb _ _ _ c_x1 hI) (fun b5 I6 h_I6 => ?_)
    exact Pre.so h_I6
  ·
    refine Pre.itep (fun g_a3 => ?_) Pre.no
    have c_a3 : CO a3 := Or.inr (by omega)
    refine Pre.ite ?_ ?_
    ·
      refine Pre.b2 (Ψ := (fun (r : Bool × MI) => Fr KC I0 r.2)) (fr_F_X8_refuse hpb _ _ _ c_x1 hI) (fun b9 I10 h_I10 => ?_)
      exact Pre.so h_I10
    ·
      refine Pre.ite ?_ ?_
      ·
        refine Pre.b2 (Ψ := (fun (r : MI × ML) => Fr KC I0 r.1)) (fr_F_X8_next hpb _ _ c_x1 hI) (fun I13 L14 h_L14 => ?_)
        refine Pre.b1 (Ψ := fun _ => True) Pre.an (fun b16 _ => ?_)
        refine Pre.ite ?_ ?_
        ·
          refine Pre.b2 (Ψ := (fun (r : Bool × MI) => Fr KC I0 r.2)) (fr_F_X8_refuse hpb _ _ _ c_x1 h_L14) (fun b44 I45 h_I45 => ?_)
          exact Pre.so h_I45
        ·
          refine Pre.b1 (Ψ := fun _ => True) Pre.an (fun v19 _ => ?_)
          refine Pre.b1 (Ψ := fun _ => True) Pre.an (fun b21 _ => ?_)
          refine Pre.ite ?_ ?_
          ·
            refine Pre.bd (Ψ := CO) (rfC hpb c_x0) (fun a24 c_a24 => ?_)
            refine Pre.bd (Fr.w1 (K := KC) (I0 := I0) h_L14 (fun _ => c_a24)) (fun I25 h_I25 => ?_)
            refine Pre.bd (Ψ := CO) (rfC hpb c_x0) (fun a26 c_a26 => ?_)
            refine Pre.b1 (Ψ := fun _ => True) Pre.an (fun v27 _ => ?_)
            refine Pre.bd (Ψ := fun _ => True) Pre.an (fun L29 _ => ?_)
            refine Pre.b3 (Ψ := (fun (r : Bool × MI × ML) => Fr KC I0 r.2.1)) (fr_F_X0_readNumbers hpb _ _ _ _ c_x0 c_x1 c_a3 h_I25) (fun b30 I31 L32 h_L32 => ?_)
            refine Pre.ite ?_ ?_
            ·
              exact Pre.so h_L32
            ·
              refine Pre.b3 (Ψ := (fun (r : Bool × MI × ML) => Fr KC I0 r.2.1)) (fr_F_X8_takeSign hpb _ _ _ c_x1 h_L32) (fun b35 I36 L37 h_L37 => ?_)
              refine Pre.ite ?_ ?_
              ·
                exact Pre.so h_L37
              ·
                refine Pre.wm (Fr.up (K := KC) (I0 := I0) h_L37 c_x0) (fun I40 h_I40 => ?_)
                exact Pre.so h_I40
          ·
            refine Pre.b2 (Ψ := (fun (r : Bool × MI) => Fr KC I0 r.2)) (fr_F_X8_refuse hpb _ _ _ c_x1 h_L14) (fun b41 I42 h_I42 => ?_)
            exact Pre.so h_I42
      ·
        refine Pre.b2 (Ψ := (fun (r : Bool × MI) => Fr KC I0 r.2)) (fr_F_X8_refuse hpb _ _ _ c_x1 hI) (fun b47 I48 h_I48 => ?_)
        exact Pre.so h_I48
theorem fr_LF_X0_readFrom_7 {N : Nat} (hpb : pb ≤ 1) : ∀ (k : Nat) (y0 : Nat) (y1 : Nat) (y2 : Int32) (I : MI) {L : ML}, CO y0 → CO y1 → Fr KC I0 I → Pre (LF_X0_readFrom_7 N k y0 y1 y2 I L (GRf pb)) (PS (fun (r : Bool × MI × ML) => Fr KC I0 r.2.1) (fun (r : MI × ML) => Fr KC I0 r.1)) := by
  intro k
  induction k with
  | zero =>
    intro y0 y1 y2 I L c_y0 c_y1 hI r hr
    rw [LF_X0_readFrom_7] at hr
    cases hr
  | succ k ih =>
    intro y0 y1 y2 I L c_y0 c_y1 hI
    rw [LF_X0_readFrom_7]
    refine Pre.ite ?_ ?_
    ·
      exact Pre.so (show (fun (r : MI × ML) => Fr KC I0 r.1) _ from hI)
    ·
      refine Pre.b2 (Ψ := (fun (r : MI × ML) => Fr KC I0 r.1)) (fr_F_X8_next hpb _ _ c_y1 hI) (fun I3 L4 h_L4 => ?_)
      refine Pre.b1 (Ψ := fun _ => True) Pre.an (fun b6 _ => ?_)
      refine Pre.ite ?_ ?_
      ·
        refine Pre.b3 (Ψ := (fun (r : Bool × MI × ML) => Fr KC I0 r.2.1)) (fr_F_X0_readUnit hpb _ _ _ c_y0 c_y1 h_L4) (fun b9 I10 L11 h_L11 => ?_)
        refine Pre.ite ?_ ?_
        ·
          exact Pre.so (show (fun (r : Bool × MI × ML) => Fr KC I0 r.2.1) _ from h_L11)
        ·
          refine Pre.wv ?_
          exact ih _ _ _ _ c_y0 c_y1 h_L11
      ·
        exact Pre.so (show (fun (r : Bool × MI × ML) => Fr KC I0 r.2.1) _ from h_L4)
theorem fr_F_X0_readFrom {N : Nat} (hpb : pb ≤ 1) (x0 : Nat) (x1 : Nat) (I : MI) (c_x0 : CO x0) (c_x1 : CO x1) (hI : Fr KC I0 I) : Pre (F_X0_readFrom N x0 x1 I L (GRf pb)) (fun (r : Bool × MI × ML) => Fr KC I0 r.2.1) := by
  rw [F_X0_readFrom]
  refine Pre.ite ?_ Pre.no
  refine Pre.ite ?_ Pre.no
  refine Pre.wm (Fr.up (K := KC) (I0 := I0) hI c_x0) (fun I1 h_I1 => ?_)
  refine Pre.bs (fr_LF_X0_readFrom_7 hpb _ _ _ _ _ c_x0 c_x1 h_I1) (fun z15 h_z15 => ?_) (fun z15 h_z15 => ?_)
  ·
    exact Pre.so h_z15
  ·
    exact Pre.so h_z15
theorem fr_F_X5_readTerm {N : Nat} (hpb : pb ≤ 1) (x0 : Nat) (x1 : Nat) (x2 : Nat) (x3 : Nat) (I : MI) (c_x0 : CO x0) (c_x1 : CO x1) (c_x2 : CO x2) (c_x3 : CO x3) (hI : Fr KC I0 I) : Pre (F_X5_readTerm N x0 x1 x2 x3 I L (GRf pb)) (fun (r : Bool × MI × ML) => Fr KC I0 r.2.1) := by
  rw [F_X5_readTerm]
  refine Pre.ite ?_ Pre.no
  refine Pre.ite ?_ Pre.no
  refine Pre.ite ?_ Pre.no
  refine Pre.ite ?_ Pre.no
  refine Pre.b2 (Ψ := (fun (r : MI × ML) => Fr KC I0 r.1)) (fr_F_X8_next hpb _ _ c_x1 hI) (fun I1 L2 h_L2 => ?_)
  refine Pre.b1 (Ψ := fun _ => True) Pre.an (fun v4 _ => ?_)
  refine Pre.wm (Fr.up (K := KC) (I0 := I0) h_L2 c_x3) (fun I6 h_I6 => ?_)
  refine Pre.wv ?_
  refine Pre.ite ?_ ?_
  ·
    refine Pre.b3 (Ψ := (fun (r : Int32 × MI × ML) => Fr KC I0 r.2.1)) (fr_F_X5_readName hpb _ _ _ _ _ c_x0 c_x1 c_x2 h_I6) (fun v10 I11 L12 h_L12 => ?_)
    refine Pre.wm (Fr.up (K := KC) (I0 := I0) h_L12 c_x3) (fun I14 h_I14 => ?_)
    refine Pre.ite ?_ ?_
    ·
      exact Pre.so h_I14
    ·
      exact Pre.so h_I14
  ·
    refine Pre.ite ?_ ?_
    ·
      refine Pre.b3 (Ψ := (fun (r : Int32 × MI × ML) => Fr KC I0 r.2.1)) (fr_F_X5_readName hpb _ _ _ _ _ c_x0 c_x1 c_x2 h_I6) (fun v17 I18 L19 h_L19 => ?_)
      refine Pre.wm (Fr.up (K := KC) (I0 := I0) h_L19 c_x3) (fun I21 h_I21 => ?_)
      refine Pre.ite ?_ ?_
      ·
        exact Pre.so h_I21
      ·
        exact Pre.so h_I21
    ·
      refine Pre.ite ?_ ?_
      ·
        refine Pre.b3 (Ψ := (fun (r : Int32 × MI × ML) => Fr KC I0 r.2.1)) (fr_F_X5_readName hpb _ _ _ _ _ c_x0 c_x1 c_x2 h_I6) (fun v24 I25 L26 h_L26 => ?_)
        refine Pre.wm (Fr.up (K := KC) (I0 := I0) h_L26 c_x3) (fun I28 h_I28 => ?_)
        refine Pre.ite ?_ ?_
        ·
          exact Pre.so h_I28
        ·
          exact Pre.so h_I28
      ·
        refine Pre.ite ?_ ?_
        ·
          refine Pre.b3 (Ψ := (fun (r : Int32 × MI × ML) => Fr KC I0 r.2.1)) (fr_F_X5_readName hpb _ _ _ _ _ c_x0 c_x1 c_x2 h_I6) (fun v31 I32 L33 h_L33 => ?_)
          refine Pre.wm (Fr.up (K := KC) (I0 := I0) h_L33 c_x3) (fun I35 h_I35 => ?_)
          refine Pre.ite ?_ ?_
          ·
            exact Pre.so h_I35
          ·
            exact Pre.so h_I35
        ·
          refine Pre.ite ?_ ?_
          ·
            exact Pre.so h_I6
          ·
            refine Pre.ite ?_ ?_
            ·
              refine Pre.b3 (Ψ := (fun (r : Bool × MI × ML) => Fr KC I0 r.2.1)) (fr_F_X8_takeNumber_ hpb _ _ _ _ c_x1 h_I6) (fun b39 I40 L41 h_L41 => ?_)
              refine Pre.wv ?_
              refine Pre.b1 (Ψ := fun _ => True) Pre.an (fun v44 _ => ?_)
              refine Pre.wm (Fr.up (K := KC) (I0 := I0) h_L41 c_x3) (fun I46 h_I46 => ?_)
              refine Pre.bd (Ψ := fun _ => True) Pre.an (fun q47 _ => ?_)
              exact Pre.so h_I46
            ·
              refine Pre.ite ?_ ?_
              ·
                refine Pre.b3 (Ψ := (fun (r : Bool × MI × ML) => Fr KC I0 r.2.1)) (fr_F_X8_takeNumber_ hpb _ _ _ _ c_x1 h_I6) (fun b49 I50 L51 h_L51 => ?_)
                refine Pre.wv ?_
                refine Pre.b1 (Ψ := fun _ => True) Pre.an (fun v54 _ => ?_)
                refine Pre.wm (Fr.up (K := KC) (I0 := I0) h_L51 c_x3) (fun I56 h_I56 => ?_)
                refine Pre.bd (Ψ := fun _ => True) Pre.an (fun q57 _ => ?_)
                exact Pre.so h_I56
              ·
                refine Pre.b2 (Ψ := (fun (r : Bool × MI) => Fr KC I0 r.2)) (fr_F_X8_refuse hpb _ _ _ c_x1 h_I6) (fun b58 I59 h_I59 => ?_)
                exact Pre.so h_I59
theorem fr_F_X5_readAct {N : Nat} (hpb : pb ≤ 1) (x0 : Nat) (x1 : Nat) (x2 : Nat) (x3 : Nat) (I : MI) (c_x0 : CO x0) (c_x1 : CO x1) (c_x2 : CO x2) (c_x3 : CO x3) (hI : Fr KC I0 I) : Pre (F_X5_readAct N x0 x1 x2 x3 I L (GRf pb)) (fun (r : Bool × MI × ML) => Fr KC I0 r.2.1) := by
  rw [F_X5_readAct]
  refine Pre.ite ?_ Pre.no
  refine Pre.ite ?_ Pre.no
  refine Pre.ite ?_ Pre.no
  refine Pre.ite ?_ Pre.no
  refine Pre.b2 (Ψ := (fun (r : MI × ML) => Fr KC I0 r.1)) (fr_F_X8_next hpb _ _ c_x1 hI) (fun I1 L2 h_L2 => ?_)
  refine Pre.b1 (Ψ := fun _ => True) Pre.an (fun v4 _ => ?_)
  refine Pre.wm (Fr.up (K := KC) (I0 := I0) h_L2 c_x3) (fun I6 h_I6 => ?_)
  refine Pre.wv ?_
  refine Pre.ite ?_ ?_
  ·
    refine Pre.b3 (Ψ := (fun (r : Int32 × MI × ML) => Fr KC I0 r.2.1)) (fr_F_X5_readName hpb _ _ _ _ _ c_x0 c_x1 c_x2 h_I6) (fun v10 I11 L12 h_L12 => ?_)
    refine Pre.wm (Fr.up (K := KC) (I0 := I0) h_L12 c_x3) (fun I14 h_I14 => ?_)
    refine Pre.ite ?_ ?_
    ·
      exact Pre.so h_I14
    ·
      exact Pre.so h_I14
  ·
    refine Pre.ite ?_ ?_
    ·
      refine Pre.b3 (Ψ := (fun (r : Int32 × MI × ML) => Fr KC I0 r.2.1)) (fr_F_X5_readName hpb _ _ _ _ _ c_x0 c_x1 c_x2 h_I6) (fun v17 I18 L19 h_L19 => ?_)
      refine Pre.wm (Fr.up (K := KC) (I0 := I0) h_L19 c_x3) (fun I21 h_I21 => ?_)
      refine Pre.ite ?_ ?_
      ·
        exact Pre.so h_I21
      ·
        exact Pre.so h_I21
    ·
      refine Pre.ite ?_ ?_
      ·
        refine Pre.b3 (Ψ := (fun (r : Bool × MI × ML) => Fr KC I0 r.2.1)) (fr_F_X8_takeNumber_ hpb _ _ _ _ c_x1 h_I6) (fun b24 I25 L26 h_L26 => ?_)
        refine Pre.wv ?_
        refine Pre.b1 (Ψ := fun _ => True) Pre.an (fun v29 _ => ?_)
        refine Pre.wm (Fr.up (K := KC) (I0 := I0) h_L26 c_x3) (fun I31 h_I31 => ?_)
        refine Pre.bd (Ψ := fun _ => True) Pre.an (fun q32 _ => ?_)
        exact Pre.so h_I31
      ·
        refine Pre.ite ?_ ?_
        ·
          refine Pre.b3 (Ψ := (fun (r : Bool × MI × ML) => Fr KC I0 r.2.1)) (fr_F_X8_takeNumber_ hpb _ _ _ _ c_x1 h_I6) (fun b34 I35 L36 h_L36 => ?_)
          refine Pre.wv ?_
          refine Pre.b1 (Ψ := fun _ => True) Pre.an (fun v39 _ => ?_)
          refine Pre.wm (Fr.up (K := KC) (I0 := I0) h_L36 c_x3) (fun I41 h_I41 => ?_)
          refine Pre.b3 (Ψ := (fun (r : Int32 × MI × ML) => Fr KC I0 r.2.1)) ?_ (fun s42 I43 L44 h_L44 => ?_)
          ·
            refine Pre.ite ?_ ?_
            ·
              exact Pre.so h_I41
            ·
              refine Pre.b3 (Ψ := (fun (r : Bool × MI × ML) => Fr KC I0 r.2.1)) (fr_F_X8_takeNumber_ hpb _ _ _ _ c_x1 h_I41) (fun b48 I49 L50 h_L50 => ?_)
              refine Pre.b1 (Ψ := fun _ => True) Pre.an (fun s52 _ => ?_)
              exact Pre.so h_L50
          ·
            refine Pre.b1 (Ψ := fun _ => True) Pre.an (fun v56 _ => ?_)
            refine Pre.wm (Fr.up (K := KC) (I0 := I0) h_L44 c_x3) (fun I58 h_I58 => ?_)
            refine Pre.bd (Ψ := fun _ => True) Pre.an (fun q59 _ => ?_)
            exact Pre.so h_I58
        ·
          refine Pre.ite ?_ ?_
          ·
            refine Pre.b3 (Ψ := (fun (r : Int32 × MI × ML) => Fr KC I0 r.2.1)) (fr_F_X5_readName hpb _ _ _ _ _ c_x0 c_x1 c_x2 h_I6) (fun v61 I62 L63 h_L63 => ?_)
            refine Pre.wm (Fr.up (K := KC) (I0 := I0) h_L63 c_x3) (fun I65 h_I65 => ?_)
            refine Pre.ite ?_ ?_
            ·
              exact Pre.so h_I65
            ·
              exact Pre.so h_I65
          ·
            refine Pre.ite ?_ ?_
            ·
              refine Pre.b3 (Ψ := (fun (r : Int32 × MI × ML) => Fr KC I0 r.2.1)) (fr_F_X5_readName hpb _ _ _ _ _ c_x0 c_x1 c_x2 h_I6) (fun v68 I69 L70 h_L70 => ?_)
              refine Pre.wm (Fr.up (K := KC) (I0 := I0) h_L70 c_x3) (fun I72 h_I72 => ?_)
              refine Pre.ite ?_ ?_
              ·
                exact Pre.so h_I72
              ·
                exact Pre.so h_I72
            ·
              refine Pre.ite ?_ ?_
              ·
                refine Pre.b3 (Ψ := (fun (r : Bool × MI × ML) => Fr KC I0 r.2.1)) (fr_F_X8_takeNumber_ hpb _ _ _ _ c_x1 h_I6) (fun b75 I76 L77 h_L77 => ?_)
                refine Pre.wv ?_
                refine Pre.b1 (Ψ := fun _ => True) Pre.an (fun v80 _ => ?_)
                refine Pre.wm (Fr.up (K := KC) (I0 := I0) h_L77 c_x3) (fun I82 h_I82 => ?_)
                refine Pre.bd (Ψ := fun _ => True) Pre.an (fun q83 _ => ?_)
                exact Pre.so h_I82
              ·
                refine Pre.b2 (Ψ := (fun (r : Bool × MI) => Fr KC I0 r.2)) (fr_F_X8_refuse hpb _ _ _ c_x1 h_I6) (fun b84 I85 h_I85 => ?_)
                exact Pre.so h_I85
theorem fr_F_X5_readItem {N : Nat} (hpb : pb ≤ 1) (x0 : Nat) (x1 : Nat) (x2 : Nat) (I : MI) (c_x0 : CO x0) (c_x1 : CO x1) (c_x2 : CO x2) (hI : Fr KC I0 I) : Pre (F_X5_readItem N x0 x1 x2 I L (GRf pb)) (fun (r : Bool × MI × ML) => Fr KC I0 r.2.1) := by
  rw [F_X5_readItem]
  refine Pre.ite ?_ Pre.no
  refine Pre.ite ?_ Pre.no
  refine Pre.ite ?_ Pre.no
  refine Pre.b1 (Ψ := fun _ => True) Pre.an (fun b1 _ => ?_)
  refine Pre.wv ?_
  refine Pre.b1 (Ψ := fun _ => True) Pre.an (fun b4 _ => ?_)
  refine Pre.wv ?_
  refine Pre.ite ?_ ?_
  ·
    refine Pre.ite ?_ ?_
    ·
      refine Pre.b1 (Ψ := fun _ => True) Pre.an (fun b185 _ => ?_)
      refine Pre.ite ?_ ?_
      ·
        refine Pre.b2 (Ψ := (fun (r : Bool × MI) => Fr KC I0 r.2)) (fr_F_X8_refuse hpb _ _ _ c_x1 hI) (fun b276 I277 h_I277 => ?_)
        exact Pre.so h_I277
      ·
        refine Pre.ite ?_ ?_
        ·
          refine Pre.b2 (Ψ := (fun (r : Bool × MI) => Fr KC I0 r.2)) (fr_F_X8_refuse hpb _ _ _ c_x1 hI) (fun b189 I190 h_I190 => ?_)
          exact Pre.so h_I190
        ·
          refine Pre.bd (Ψ := CO) (rfC hpb c_x0) (fun a192 c_a192 => ?_)
          refine Pre.ite ?_ ?_
          ·
            refine Pre.bd (Ψ := CO) (raC hpb c_a192) (fun a194 c_a194 => ?_)
            refine Pre.b1 (Ψ := (fun (r : MI) => Fr KC I0 r)) (fr_F_X3_clear hpb _ _ c_a194 hI) (fun I195 h_I195 => ?_)
            refine Pre.b3 (Ψ := (fun (r : Int32 × MI × ML) => Fr KC I0 r.2.1)) ?_ (fun u197 I198 L199 h_L199 => ?_)
            ·
              refine Pre.ite ?_ ?_
              ·
                refine Pre.b3 (Ψ := (fun (r : Int32 × MI × ML) => Fr KC I0 r.2.1)) ?_ (fun u220 I221 L222 h_L222 => ?_)
                ·
                  refine Pre.ite ?_ ?_
                  ·
                    refine Pre.b3 (Ψ := (fun (r : Bool × MI × ML) => Fr KC I0 r.2.1)) (fr_F_X5_readTerm hpb _ _ _ _ _ c_x0 c_x1 c_x2 c_a194 h_I195) (fun b226 I227 L228 h_L228 => ?_)
                    refine Pre.b3 (Ψ := (fun (r : Int32 × MI × ML) => Fr KC I0 r.2.1)) ?_ (fun s230 I231 L232 h_L232 => ?_)
                    ·
                      refine Pre.ite ?_ ?_
                      ·
                        exact Pre.so h_L228
                      ·
                        refine Pre.b3 (Ψ := (fun (r : Bool × MI × ML) => Fr KC I0 r.2.1)) (fr_F_X5_readBound hpb _ _ _ _ c_x0 c_x1 c_a194 h_L228) (fun b236 I237 L238 h_L238 => ?_)
                        refine Pre.b1 (Ψ := fun _ => True) Pre.an (fun s240 _ => ?_)
                        exact Pre.so h_L238
                    ·
                      exact Pre.so h_L232
                  ·
                    refine Pre.b1 (Ψ := fun _ => True) Pre.an (fun s244 _ => ?_)
                    refine Pre.wm (Fr.up (K := KC) (I0 := I0) h_I195 c_a194) (fun I248 h_I248 => ?_)
                    refine Pre.b1 (Ψ := fun _ => True) Pre.an (fun s249 _ => ?_)
                    refine Pre.b3 (Ψ := (fun (r : Bool × MI × ML) => Fr KC I0 r.2.1)) (fr_F_X8_takeNumber_ hpb _ _ _ _ c_x1 h_I248) (fun b253 I254 L255 h_L255 => ?_)
                    refine Pre.wv ?_
                    refine Pre.b1 (Ψ := fun _ => True) Pre.an (fun v258 _ => ?_)
                    refine Pre.wm (Fr.up (K := KC) (I0 := I0) h_L255 c_a194) (fun I260 h_I260 => ?_)
                    exact Pre.so h_I260
                ·
                  exact Pre.so h_L222
              ·
                refine Pre.b1 (Ψ := fun _ => True) Pre.an (fun s203 _ => ?_)
                refine Pre.wm (Fr.up (K := KC) (I0 := I0) h_I195 c_a194) (fun I207 h_I207 => ?_)
                refine Pre.b1 (Ψ := fun _ => True) Pre.an (fun s208 _ => ?_)
                refine Pre.b3 (Ψ := (fun (r : Bool × MI × ML) => Fr KC I0 r.2.1)) (fr_F_X8_takeNumber_ hpb _ _ _ _ c_x1 h_I207) (fun b212 I213 L214 h_L214 => ?_)
                refine Pre.wv ?_
                refine Pre.b1 (Ψ := fun _ => True) Pre.an (fun v217 _ => ?_)
                refine Pre.wm (Fr.up (K := KC) (I0 := I0) h_L214 c_a194) (fun I219 h_I219 => ?_)
                exact Pre.so h_I219
            ·
              refine Pre.ite ?_ ?_
              ·
                exact Pre.so h_L199
              ·
                refine Pre.b3 (Ψ := (fun (r : Bool × MI × ML) => Fr KC I0 r.2.1)) (fr_F_X5_readAct hpb _ _ _ _ _ c_x0 c_x1 c_x2 c_a194 h_L199) (fun b262 I263 L264 h_L264 => ?_)
                refine Pre.ite ?_ ?_
                ·
                  exact Pre.so h_L264
                ·
                  refine Pre.b3 (Ψ := (fun (r : Bool × MI × ML) => Fr KC I0 r.2.1)) (fr_F_X8_takeSign hpb _ _ _ c_x1 h_L264) (fun b267 I268 L269 h_L269 => ?_)
                  refine Pre.ite ?_ ?_
                  ·
                    exact Pre.so h_L269
                  ·
                    refine Pre.wm (Fr.up (K := KC) (I0 := I0) h_L269 c_x0) (fun I272 h_I272 => ?_)
                    exact Pre.so h_I272
          ·
            refine Pre.b2 (Ψ := (fun (r : Bool × MI) => Fr KC I0 r.2)) (fr_F_X8_refuse hpb _ _ _ c_x1 hI) (fun b273 I274 h_I274 => ?_)
            exact Pre.so h_I274
    ·
      refine Pre.ite ?_ ?_
      ·
        refine Pre.b2 (Ψ := (fun (r : Bool × MI) => Fr KC I0 r.2)) (fr_F_X8_refuse hpb _ _ _ c_x1 hI) (fun b98 I99 h_I99 => ?_)
        exact Pre.so h_I99
      ·
        refine Pre.bd (Ψ := CO) (rfC hpb c_x0) (fun a101 c_a101 => ?_)
        refine Pre.ite ?_ ?_
        ·
          refine Pre.bd (Ψ := CO) (raC hpb c_a101) (fun a103 c_a103 => ?_)
          refine Pre.b1 (Ψ := (fun (r : MI) => Fr KC I0 r)) (fr_F_X3_clear hpb _ _ c_a103 hI) (fun I104 h_I104 => ?_)
          refine Pre.b3 (Ψ := (fun (r : Int32 × MI × ML) => Fr KC I0 r.2.1)) ?_ (fun u106 I107 L108 h_L108 => ?_)
          ·
            refine Pre.ite ?_ ?_
            ·
              refine Pre.b3 (Ψ := (fun (r : Int32 × MI × ML) => Fr KC I0 r.2.1)) ?_ (fun u129 I130 L131 h_L131 => ?_)
              ·
                refine Pre.ite ?_ ?_
                ·
                  refine Pre.b3 (Ψ := (fun (r : Bool × MI × ML) => Fr KC I0 r.2.1)) (fr_F_X5_readTerm hpb _ _ _ _ _ c_x0 c_x1 c_x2 c_a103 h_I104) (fun b135 I136 L137 h_L137 => ?_)
                  refine Pre.b3 (Ψ := (fun (r : Int32 × MI × ML) => Fr KC I0 r.2.1)) ?_ (fun s139 I140 L141 h_L141 => ?_)
                  ·
                    refine Pre.ite ?_ ?_
                    ·
                      exact Pre.so h_L137
                    ·
                      refine Pre.b3 (Ψ := (fun (r : Bool × MI × ML) => Fr KC I0 r.2.1)) (fr_F_X5_readBound hpb _ _ _ _ c_x0 c_x1 c_a103 h_L137) (fun b145 I146 L147 h_L147 => ?_)
                      refine Pre.b1 (Ψ := fun _ => True) Pre.an (fun s149 _ => ?_)
                      exact Pre.so h_L147
                  ·
                    exact Pre.so h_L141
                ·
                  refine Pre.b1 (Ψ := fun _ => True) Pre.an (fun s153 _ => ?_)
                  refine Pre.wm (Fr.up (K := KC) (I0 := I0) h_I104 c_a103) (fun I157 h_I157 => ?_)
                  refine Pre.b1 (Ψ := fun _ => True) Pre.an (fun s158 _ => ?_)
                  refine Pre.b3 (Ψ := (fun (r : Bool × MI × ML) => Fr KC I0 r.2.1)) (fr_F_X8_takeNumber_ hpb _ _ _ _ c_x1 h_I157) (fun b162 I163 L164 h_L164 => ?_)
                  refine Pre.wv ?_
                  refine Pre.b1 (Ψ := fun _ => True) Pre.an (fun v167 _ => ?_)
                  refine Pre.wm (Fr.up (K := KC) (I0 := I0) h_L164 c_a103) (fun I169 h_I169 => ?_)
                  exact Pre.so h_I169
              ·
                exact Pre.so h_L131
            ·
              refine Pre.b1 (Ψ := fun _ => True) Pre.an (fun s112 _ => ?_)
              refine Pre.wm (Fr.up (K := KC) (I0 := I0) h_I104 c_a103) (fun I116 h_I116 => ?_)
              refine Pre.b1 (Ψ := fun _ => True) Pre.an (fun s117 _ => ?_)
              refine Pre.b3 (Ψ := (fun (r : Bool × MI × ML) => Fr KC I0 r.2.1)) (fr_F_X8_takeNumber_ hpb _ _ _ _ c_x1 h_I116) (fun b121 I122 L123 h_L123 => ?_)
              refine Pre.wv ?_
              refine Pre.b1 (Ψ := fun _ => True) Pre.an (fun v126 _ => ?_)
              refine Pre.wm (Fr.up (K := KC) (I0 := I0) h_L123 c_a103) (fun I128 h_I128 => ?_)
              exact Pre.so h_I128
          ·
            refine Pre.ite ?_ ?_
            ·
              exact Pre.so h_L108
            ·
              refine Pre.b3 (Ψ := (fun (r : Bool × MI × ML) => Fr KC I0 r.2.1)) (fr_F_X5_readAct hpb _ _ _ _ _ c_x0 c_x1 c_x2 c_a103 h_L108) (fun b171 I172 L173 h_L173 => ?_)
              refine Pre.ite ?_ ?_
              ·
                exact Pre.so h_L173
              ·
                refine Pre.b3 (Ψ := (fun (r : Bool × MI × ML) => Fr KC I0 r.2.1)) (fr_F_X8_takeSign hpb _ _ _ c_x1 h_L173) (fun b176 I177 L178 h_L178 => ?_)
                refine Pre.ite ?_ ?_
                ·
                  exact Pre.so h_L178
                ·
                  refine Pre.wm (Fr.up (K := KC) (I0 := I0) h_L178 c_x0) (fun I181 h_I181 => ?_)
                  exact Pre.so h_I181
        ·
          refine Pre.b2 (Ψ := (fun (r : Bool × MI) => Fr KC I0 r.2)) (fr_F_X8_refuse hpb _ _ _ c_x1 hI) (fun b182 I183 h_I183 => ?_)
          exact Pre.so h_I183
  ·
    refine Pre.ite ?_ ?_
    ·
      refine Pre.b2 (Ψ := (fun (r : Bool × MI) => Fr KC I0 r.2)) (fr_F_X8_refuse hpb _ _ _ c_x1 hI) (fun b9 I10 h_I10 => ?_)
      exact Pre.so h_I10
    ·
      refine Pre.bd (Ψ := CO) (rfC hpb c_x0) (fun a12 c_a12 => ?_)
      refine Pre.ite ?_ ?_
      ·
        refine Pre.bd (Ψ := CO) (raC hpb c_a12) (fun a14 c_a14 => ?_)
        refine Pre.b1 (Ψ := (fun (r : MI) => Fr KC I0 r)) (fr_F_X3_clear hpb _ _ c_a14 hI) (fun I15 h_I15 => ?_)
        refine Pre.b3 (Ψ := (fun (r : Int32 × MI × ML) => Fr KC I0 r.2.1)) ?_ (fun u17 I18 L19 h_L19 => ?_)
        ·
          refine Pre.ite ?_ ?_
          ·
            refine Pre.b3 (Ψ := (fun (r : Int32 × MI × ML) => Fr KC I0 r.2.1)) ?_ (fun u40 I41 L42 h_L42 => ?_)
            ·
              refine Pre.ite ?_ ?_
              ·
                refine Pre.b3 (Ψ := (fun (r : Bool × MI × ML) => Fr KC I0 r.2.1)) (fr_F_X5_readTerm hpb _ _ _ _ _ c_x0 c_x1 c_x2 c_a14 h_I15) (fun b46 I47 L48 h_L48 => ?_)
                refine Pre.b3 (Ψ := (fun (r : Int32 × MI × ML) => Fr KC I0 r.2.1)) ?_ (fun s50 I51 L52 h_L52 => ?_)
                ·
                  refine Pre.ite ?_ ?_
                  ·
                    exact Pre.so h_L48
                  ·
                    refine Pre.b3 (Ψ := (fun (r : Bool × MI × ML) => Fr KC I0 r.2.1)) (fr_F_X5_readBound hpb _ _ _ _ c_x0 c_x1 c_a14 h_L48) (fun b56 I57 L58 h_L58 => ?_)
                    refine Pre.b1 (Ψ := fun _ => True) Pre.an (fun s60 _ => ?_)
                    exact Pre.so h_L58
                ·
                  exact Pre.so h_L52
              ·
                refine Pre.b1 (Ψ := fun _ => True) Pre.an (fun s64 _ => ?_)
                refine Pre.wm (Fr.up (K := KC) (I0 := I0) h_I15 c_a14) (fun I68 h_I68 => ?_)
                refine Pre.b1 (Ψ := fun _ => True) Pre.an (fun s69 _ => ?_)
                refine Pre.b3 (Ψ := (fun (r : Bool × MI × ML) => Fr KC I0 r.2.1)) (fr_F_X8_takeNumber_ hpb _ _ _ _ c_x1 h_I68) (fun b73 I74 L75 h_L75 => ?_)
                refine Pre.wv ?_
                refine Pre.b1 (Ψ := fun _ => True) Pre.an (fun v78 _ => ?_)
                refine Pre.wm (Fr.up (K := KC) (I0 := I0) h_L75 c_a14) (fun I80 h_I80 => ?_)
                exact Pre.so h_I80
            ·
              exact Pre.so h_L42
          ·
            refine Pre.b1 (Ψ := fun _ => True) Pre.an (fun s23 _ => ?_)
            refine Pre.wm (Fr.up (K := KC) (I0 := I0) h_I15 c_a14) (fun I27 h_I27 => ?_)
            refine Pre.b1 (Ψ := fun _ => True) Pre.an (fun s28 _ => ?_)
            refine Pre.b3 (Ψ := (fun (r : Bool × MI × ML) => Fr KC I0 r.2.1)) (fr_F_X8_takeNumber_ hpb _ _ _ _ c_x1 h_I27) (fun b32 I33 L34 h_L34 => ?_)
            refine Pre.wv ?_
            refine Pre.b1 (Ψ := fun _ => True) Pre.an (fun v37 _ => ?_)
            refine Pre.wm (Fr.up (K := KC) (I0 := I0) h_L34 c_a14) (fun I39 h_I39 => ?_)
            exact Pre.so h_I39
        ·
          refine Pre.ite ?_ ?_
          ·
            exact Pre.so h_L19
          ·
            refine Pre.b3 (Ψ := (fun (r : Bool × MI × ML) => Fr KC I0 r.2.1)) (fr_F_X5_readAct hpb _ _ _ _ _ c_x0 c_x1 c_x2 c_a14 h_L19) (fun b82 I83 L84 h_L84 => ?_)
            refine Pre.ite ?_ ?_
            ·
              exact Pre.so h_L84
            ·
              refine Pre.b3 (Ψ := (fun (r : Bool × MI × ML) => Fr KC I0 r.2.1)) (fr_F_X8_takeSign hpb _ _ _ c_x1 h_L84) (fun b87 I88 L89 h_L89 => ?_)
              refine Pre.ite ?_ ?_
              ·
                exact Pre.so h_L89
              ·
                refine Pre.wm (Fr.up (K := KC) (I0 := I0) h_L89 c_x0) (fun I92 h_I92 => ?_)
                exact Pre.so h_I92
      ·
        refine Pre.b2 (Ψ := (fun (r : Bool × MI) => Fr KC I0 r.2)) (fr_F_X8_refuse hpb _ _ _ c_x1 hI) (fun b93 I94 h_I94 => ?_)
        exact Pre.so h_I94
theorem fr_LF_X5_readFrom_7 {N : Nat} (hpb : pb ≤ 1) : ∀ (k : Nat) (y0 : Nat) (y1 : Nat) (y2 : Nat) (y3 : Int32) (I : MI) {L : ML}, CO y0 → CO y1 → CO y2 → Fr KC I0 I → Pre (LF_X5_readFrom_7 N k y0 y1 y2 y3 I L (GRf pb)) (PS (fun (r : Bool × MI × ML) => Fr KC I0 r.2.1) (fun (r : MI × ML) => Fr KC I0 r.1)) := by
  intro k
  induction k with
  | zero =>
    intro y0 y1 y2 y3 I L c_y0 c_y1 c_y2 hI r hr
    rw [LF_X5_readFrom_7] at hr
    cases hr
  | succ k ih =>
    intro y0 y1 y2 y3 I L c_y0 c_y1 c_y2 hI
    rw [LF_X5_readFrom_7]
    refine Pre.ite ?_ ?_
    ·
      exact Pre.so (show (fun (r : MI × ML) => Fr KC I0 r.1) _ from hI)
    ·
      refine Pre.b2 (Ψ := (fun (r : MI × ML) => Fr KC I0 r.1)) (fr_F_X8_next hpb _ _ c_y1 hI) (fun I3 L4 h_L4 => ?_)
      refine Pre.b1 (Ψ := fun _ => True) Pre.an (fun b6 _ => ?_)
      refine Pre.ite ?_ ?_
      ·
        refine Pre.b3 (Ψ := (fun (r : Bool × MI × ML) => Fr KC I0 r.2.1)) (fr_F_X5_readItem hpb _ _ _ _ c_y0 c_y1 c_y2 h_L4) (fun b9 I10 L11 h_L11 => ?_)
        refine Pre.ite ?_ ?_
        ·
          exact Pre.so (show (fun (r : Bool × MI × ML) => Fr KC I0 r.2.1) _ from h_L11)
        ·
          refine Pre.wv ?_
          exact ih _ _ _ _ _ c_y0 c_y1 c_y2 h_L11
      ·
        exact Pre.so (show (fun (r : Bool × MI × ML) => Fr KC I0 r.2.1) _ from h_L4)
theorem fr_F_X5_readFrom {N : Nat} (hpb : pb ≤ 1) (x0 : Nat) (x1 : Nat) (x2 : Nat) (I : MI) (c_x0 : CO x0) (c_x1 : CO x1) (c_x2 : CO x2) (hI : Fr KC I0 I) : Pre (F_X5_readFrom N x0 x1 x2 I L (GRf pb)) (fun (r : Bool × MI × ML) => Fr KC I0 r.2.1) := by
  rw [F_X5_readFrom]
  refine Pre.ite ?_ Pre.no
  refine Pre.ite ?_ Pre.no
  refine Pre.ite ?_ Pre.no
  refine Pre.wm (Fr.up (K := KC) (I0 := I0) hI c_x0) (fun I1 h_I1 => ?_)
  refine Pre.bs (fr_LF_X5_readFrom_7 hpb _ _ _ _ _ _ c_x0 c_x1 c_x2 h_I1) (fun z15 h_z15 => ?_) (fun z15 h_z15 => ?_)
  ·
    exact Pre.so h_z15
  ·
    exact Pre.so h_z15
theorem fr_F_X11_load {N : Nat} (hpb : pb ≤ 1) (x0 : Nat) (x1 : Int32) (I : MI) (c_x0 : CO x0) (hI : Fr KC I0 I) : Pre (F_X11_load N x0 x1 I L (GRf pb)) (PS (fun _ => True) (fun (r : Int32 × MI × ML) => Fr KC I0 r.2.1)) := by
  rw [F_X11_load]
  refine Pre.ite ?_ Pre.no
  refine Pre.ite ?_ ?_
  ·
    exact Pre.so trivial
  ·
    refine Pre.bd (Ψ := CO) (rfC hpb c_x0) (fun a2 c_a2 => ?_)
    refine Pre.b1 (Ψ := fun _ => True) Pre.an (fun v3 _ => ?_)
    refine Pre.ite ?_ ?_
    ·
      refine Pre.b1 (Ψ := (fun (r : MI) => Fr KC I0 r)) (fr_F_X8_begin hpb _ _ _ c_a2 hI) (fun I6 h_I6 => ?_)
      refine Pre.bd (Ψ := CO) (rfC hpb c_x0) (fun a8 c_a8 => ?_)
      refine Pre.b3 (Ψ := (fun (r : Bool × MI × ML) => Fr KC I0 r.2.1)) (fr_F_X0_readFrom hpb _ _ _ c_a8 c_a2 h_I6) (fun b9 I10 L11 h_L11 => ?_)
      refine Pre.wv ?_
      refine Pre.b1 (Ψ := (fun (r : MI) => Fr KC I0 r)) (fr_F_X8_empty hpb _ _ c_a2 h_L11) (fun I14 h_I14 => ?_)
      refine Pre.ite ?_ ?_
      ·
        exact Pre.so (show (fun (r : Int32 × MI × ML) => Fr KC I0 r.2.1) _ from h_I14)
      ·
        refine Pre.bd (Ψ := CO) (rfC hpb c_x0) (fun a17 c_a17 => ?_)
        refine Pre.b2 (Ψ := (fun (r : MI × ML) => Fr KC I0 r.1)) (fr_F_X10_build hpb _ _ _ c_a17 c_a8 h_I14) (fun I18 L19 h_L19 => ?_)
        refine Pre.bd (Ψ := CO) (rfC hpb c_x0) (fun a21 c_a21 => ?_)
        refine Pre.b1 (Ψ := (fun (r : MI) => Fr KC I0 r)) (fr_F_X2_begin hpb _ _ c_a21 h_L19) (fun I22 h_I22 => ?_)
        refine Pre.b1 (Ψ := fun _ => True) Pre.an (fun v24 _ => ?_)
        exact Pre.so (show (fun (r : Int32 × MI × ML) => Fr KC I0 r.2.1) _ from h_I22)
    ·
      exact Pre.so trivial
theorem fr_F_X11_plan {N : Nat} (hpb : pb ≤ 1) (x0 : Nat) (x1 : Int32) (I : MI) (c_x0 : CO x0) (hI : Fr KC I0 I) : Pre (F_X11_plan N x0 x1 I L (GRf pb)) (PS (fun _ => True) (fun (r : Int32 × MI × ML × MR) => Fr KC I0 r.2.1)) := by
  rw [F_X11_plan]
  refine Pre.ite ?_ Pre.no
  refine Pre.ite ?_ ?_
  ·
    exact Pre.so trivial
  ·
    refine Pre.bd (Ψ := CO) (rfC hpb c_x0) (fun a2 c_a2 => ?_)
    refine Pre.b1 (Ψ := fun _ => True) Pre.an (fun v3 _ => ?_)
    refine Pre.ite ?_ ?_
    ·
      refine Pre.b1 (Ψ := (fun (r : MI) => Fr KC I0 r)) (fr_F_X8_begin hpb _ _ _ c_a2 hI) (fun I6 h_I6 => ?_)
      refine Pre.bd (Ψ := CO) (rfC hpb c_x0) (fun a8 c_a8 => ?_)
      refine Pre.bd (Ψ := CO) (rfC hpb c_x0) (fun a9 c_a9 => ?_)
      refine Pre.b3 (Ψ := (fun (r : Bool × MI × ML) => Fr KC I0 r.2.1)) (fr_F_X5_readFrom hpb _ _ _ _ c_a8 c_a2 c_a9 h_I6) (fun b10 I11 L12 h_L12 => ?_)
      refine Pre.wv ?_
      refine Pre.b1 (Ψ := (fun (r : MI) => Fr KC I0 r)) (fr_F_X8_empty hpb _ _ c_a2 h_L12) (fun I15 h_I15 => ?_)
      refine Pre.ite ?_ ?_
      ·
        exact Pre.so (show (fun (r : Int32 × MI × ML × MR) => Fr KC I0 r.2.1) _ from h_I15)
      ·
        refine Pre.bd (Ψ := CO) (rfC hpb c_x0) (fun a18 c_a18 => ?_)
        refine Pre.b2 (Ψ := (fun (r : Nat × MR) => CO r.1)) (fr_F_X2_exchangePlan hpb _ _ _ c_a18 c_a8 h_I15) (fun a19 R20 h_R20 => ?_)
        refine Pre.ite ?_ Pre.no
        refine Pre.wv ?_
        refine Pre.bd (Ψ := fun _ => True) Pre.an (fun a24 _ => ?_)
        refine Pre.b1 (Ψ := fun _ => True) Pre.an (fun a25 _ => ?_)
        refine Pre.ite ?_ Pre.no
        refine Pre.b1 (Ψ := fun _ => True) Pre.an (fun v28 _ => ?_)
        exact Pre.so (show (fun (r : Int32 × MI × ML × MR) => Fr KC I0 r.2.1) _ from h_I15)
    ·
      exact Pre.so trivial
theorem fr_LF_X11_run_43 {N : Nat} (hpb : pb ≤ 1) : ∀ (k : Nat) (y0 : Nat) (y1 : Int32) (y2 : Int32) (I : MI) {L : ML}, CO y0 → Fr KC I0 I → Pre (LF_X11_run_43 N k y0 y1 y2 I L (GRf pb)) (fun (r : MI) => Fr KC I0 r) := by
  intro k
  induction k with
  | zero =>
    intro y0 y1 y2 I L c_y0 hI r hr
    rw [LF_X11_run_43] at hr
    cases hr
  | succ k ih =>
    intro y0 y1 y2 I L c_y0 hI
    rw [LF_X11_run_43]
    refine Pre.ite ?_ ?_
    ·
      exact Pre.so hI
    ·
      refine Pre.bd (Ψ := CO) (rfC hpb c_y0) (fun a8 c_a8 => ?_)
      refine Pre.b1 (Ψ := (fun (r : MI) => Fr KC I0 r)) (fr_F_X2_tick hpb _ _ c_a8 hI) (fun I9 h_I9 => ?_)
      refine Pre.wv ?_
      exact ih _ _ _ _ c_y0 h_I9
theorem fr_F_X11_run {N : Nat} (hpb : pb ≤ 1) (x0 : Nat) (x1 : Int32) (I : MI) (c_x0 : CO x0) (hI : Fr KC I0 I) : Pre (F_X11_run N x0 x1 I L (GRf pb)) (PS (fun _ => True) (fun (r : Int32 × MI) => Fr KC I0 r.2)) := by
  rw [F_X11_run]
  refine Pre.ite ?_ Pre.no
  refine Pre.bd (Ψ := CO) (rfC hpb c_x0) (fun a1 c_a1 => ?_)
  refine Pre.b1 (Ψ := fun _ => True) Pre.an (fun v2 _ => ?_)
  refine Pre.ite ?_ ?_
  ·
    exact Pre.so trivial
  ·
    refine Pre.ite ?_ ?_
    ·
      exact Pre.so trivial
    ·
      refine Pre.ite ?_ ?_
      ·
        refine Pre.b1 (Ψ := (fun (r : MI) => Fr KC I0 r)) (fr_LF_X11_run_43 hpb _ _ _ _ _ c_x0 hI) (fun z12 h_z12 => ?_)
        refine Pre.bd (Ψ := CO) (rfC hpb c_x0) (fun a14 c_a14 => ?_)
        refine Pre.b1 (Ψ := fun _ => True) Pre.an (fun v15 _ => ?_)
        exact Pre.so (show (fun (r : Int32 × MI) => Fr KC I0 r.2) _ from h_z12)
      ·
        exact Pre.so trivial
theorem fr_F_X11_command {N : Nat} (hpb : pb ≤ 1) (x0 : Nat) (x1 : Int32) (x2 : Int32) (x3 : Int32) (I : MI) (c_x0 : CO x0) (hI : Fr KC I0 I) : Pre (F_X11_command N x0 x1 x2 x3 I L (GRf pb)) (PS (fun _ => True) (fun (r : Bool × MI) => Fr KC I0 r.2)) := by
  rw [F_X11_command]
  refine Pre.ite ?_ Pre.no
  refine Pre.bd (Ψ := CO) (rfC hpb c_x0) (fun a1 c_a1 => ?_)
  refine Pre.b1 (Ψ := fun _ => True) Pre.an (fun v2 _ => ?_)
  refine Pre.ite ?_ ?_
  ·
    exact Pre.so trivial
  ·
    refine Pre.b1 (Ψ := fun _ => True) Pre.an (fun b5 _ => ?_)
    refine Pre.ite ?_ ?_
    ·
      exact Pre.so trivial
    ·
      refine Pre.bd (Ψ := CO) (rfC hpb c_x0) (fun a8 c_a8 => ?_)
      refine Pre.b2 (Ψ := (fun (r : Bool × MI) => Fr KC I0 r.2)) (fr_F_X2_perform hpb _ _ _ _ _ c_a8 hI) (fun b9 I10 h_I10 => ?_)
      exact Pre.so (show (fun (r : Bool × MI) => Fr KC I0 r.2) _ from h_I10)
end P18
