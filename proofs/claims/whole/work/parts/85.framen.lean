/-! Frames: what the reference has thrown stays -/
section P18
variable {pb : Nat} {L : ML} {I0 : MI}
theorem fs_LF_X12_feed_23 {N : Nat} : ∀ (k : Nat) (y1 : Int32) (y2 : Int32) (y3 : Int32) (y4 : Int32) (y5 : Int32) (y6 : Int32) (I : MI), Fr KM I0 I → Pre (LF_X12_feed_23 N k 24 y1 y2 y3 y4 y5 y6 I L (GRf pb)) (fun (r : MI) => Fr KM I0 r) := by
  intro k
  induction k with
  | zero =>
    intro y1 y2 y3 y4 y5 y6 I hI r hr
    rw [LF_X12_feed_23] at hr
    cases hr
  | succ k ih =>
    intro y1 y2 y3 y4 y5 y6 I hI
    rw [LF_X12_feed_23]
    refine Pre.ite ?_ ?_
    ·
      exact Pre.so hI
    ·
      refine Pre.wv ?_
      refine Pre.bd (Ψ := fun z => some z = rf (GRf pb) 24 6 20) (fun z hz => hz.symm) (fun a5 e_a5 => ?_)
      rw [rf_24_6] at e_a5
      have e_a5 := Option.some.inj e_a5
      subst e_a5
      refine Pre.bd (Fr.w1 (K := KM) (I0 := I0) hI (fun p => by unfold KM; omega)) (fun I6 h_I6 => ?_)
      refine Pre.bd (Fr.w1 (K := KM) (I0 := I0) h_I6 (fun p => by unfold KM; omega)) (fun I7 h_I7 => ?_)
      refine Pre.bd (Fr.w1 (K := KM) (I0 := I0) h_I7 (fun p => by unfold KM; omega)) (fun I8 h_I8 => ?_)
      refine Pre.bd (Fr.w1 (K := KM) (I0 := I0) h_I8 (fun p => by unfold KM; omega)) (fun I9 h_I9 => ?_)
      refine Pre.bd (Fr.w1 (K := KM) (I0 := I0) h_I9 (fun p => by unfold KM; omega)) (fun I10 h_I10 => ?_)
      refine Pre.wv ?_
      exact ih _ _ _ _ _ _ _ h_I10
theorem fs_LF_X12_begins_21 {N : Nat} : ∀ (k : Nat) (y1 : Int32) (y2 : Int32) (I : MI), Fr KM I0 I → Pre (LF_X12_begins_21 N k 24 y1 y2 I L (GRf pb)) (fun (r : MI) => Fr KM I0 r) := by
  intro k
  induction k with
  | zero =>
    intro y1 y2 I hI r hr
    rw [LF_X12_begins_21] at hr
    cases hr
  | succ k ih =>
    intro y1 y2 I hI
    rw [LF_X12_begins_21]
    refine Pre.ite ?_ ?_
    ·
      exact Pre.so hI
    ·
      refine Pre.bd (Ψ := fun z => some z = rf (GRf pb) 24 8 20) (fun z hz => hz.symm) (fun a5 e_a5 => ?_)
      rw [rf_24_8] at e_a5
      have e_a5 := Option.some.inj e_a5
      subst e_a5
      refine Pre.bd (Ψ := fun z => some z = rf (GRf pb) 24 6 20) (fun z hz => hz.symm) (fun a6 e_a6 => ?_)
      rw [rf_24_6] at e_a6
      have e_a6 := Option.some.inj e_a6
      subst e_a6
      refine Pre.bd (Ψ := fun _ => True) Pre.an (fun v7 _ => ?_)
      refine Pre.bd (Fr.w1 (K := KM) (I0 := I0) hI (fun p => by unfold KM; omega)) (fun I8 h_I8 => ?_)
      refine Pre.wv ?_
      exact ih _ _ _ h_I8
theorem fs_F_X12_wrong (x1 : Int32) (x2 : Int32) (I : MI)  (hI : Fr KM I0 I) : Pre (F_X12_wrong 24 x1 x2 I L (GRf pb)) (fun (r : MI) => Fr KM I0 r) := by
  rw [F_X12_wrong]
  refine Pre.ite ?_ Pre.no
  refine Pre.ite ?_ ?_
  ·
    refine Pre.wm (Fr.up (K := KM) (I0 := I0) hI (by unfold KM; omega)) (fun I2 h_I2 => ?_)
    refine Pre.wm (Fr.up (K := KM) (I0 := I0) h_I2 (by unfold KM; omega)) (fun I3 h_I3 => ?_)
    exact Pre.so h_I3
  ·
    exact Pre.so hI
theorem fs_LF_X12_takeWord_10 {N : Nat} : ∀ (k : Nat)  (I : MI), Fr KM I0 I → Pre (LF_X12_takeWord_10 N k 24  I L (GRf pb)) (PS (fun (r : MI) => Fr KM I0 r) (fun (r : MI) => Fr KM I0 r)) := by
  intro k
  induction k with
  | zero =>
    intro I hI r hr
    rw [LF_X12_takeWord_10] at hr
    cases hr
  | succ k ih =>
    intro I hI
    rw [LF_X12_takeWord_10]
    refine Pre.b1 (Ψ := fun _ => True) Pre.an (fun v3 _ => ?_)
    refine Pre.b1 (Ψ := fun _ => True) Pre.an (fun b5 _ => ?_)
    refine Pre.ite ?_ ?_
    ·
      refine Pre.b1 (Ψ := fun _ => True) Pre.an (fun v13 _ => ?_)
      refine Pre.b1 (Ψ := fun _ => True) Pre.an (fun b15 _ => ?_)
      refine Pre.ite ?_ ?_
      ·
        exact Pre.so (show (fun (r : MI) => Fr KM I0 r) _ from hI)
      ·
        refine Pre.ite ?_ ?_
        ·
          refine Pre.b1 (Ψ := (fun (r : MI) => Fr KM I0 r)) (fs_F_X12_wrong _ _ _ hI) (fun I21 h_I21 => ?_)
          exact Pre.so (show (fun (r : MI) => Fr KM I0 r) _ from h_I21)
        ·
          refine Pre.wm (Fr.up (K := KM) (I0 := I0) hI (by unfold KM; omega)) (fun I19 h_I19 => ?_)
          refine Pre.wm (Fr.up (K := KM) (I0 := I0) h_I19 (by unfold KM; omega)) (fun I20 h_I20 => ?_)
          exact ih _ h_I20
    ·
      refine Pre.ite ?_ ?_
      ·
        refine Pre.b1 (Ψ := (fun (r : MI) => Fr KM I0 r)) (fs_F_X12_wrong _ _ _ hI) (fun I11 h_I11 => ?_)
        exact Pre.so (show (fun (r : MI) => Fr KM I0 r) _ from h_I11)
      ·
        refine Pre.wm (Fr.up (K := KM) (I0 := I0) hI (by unfold KM; omega)) (fun I9 h_I9 => ?_)
        refine Pre.wm (Fr.up (K := KM) (I0 := I0) h_I9 (by unfold KM; omega)) (fun I10 h_I10 => ?_)
        exact ih _ h_I10
theorem fs_F_X12_takeWord {N : Nat}  (I : MI)  (hI : Fr KM I0 I) : Pre (F_X12_takeWord N 24  I L (GRf pb)) (fun (r : MI) => Fr KM I0 r) := by
  rw [F_X12_takeWord]
  refine Pre.ite ?_ Pre.no
  refine Pre.wm (Fr.up (K := KM) (I0 := I0) hI (by unfold KM; omega)) (fun I1 h_I1 => ?_)
  refine Pre.wm (Fr.up (K := KM) (I0 := I0) h_I1 (by unfold KM; omega)) (fun I2 h_I2 => ?_)
  refine Pre.bs (fs_LF_X12_takeWord_10 _ _ h_I2) (fun z23 h_z23 => ?_) (fun z23 h_z23 => ?_)
  ·
    exact Pre.so h_z23
  ·
    exact Pre.so h_z23
theorem fs_LF_X12_takeNumber_73 {N : Nat} : ∀ (k : Nat) (y1 : Int32) (y2 : Int32) (I : MI), Fr KM I0 I → Pre (LF_X12_takeNumber_73 N k 24 y1 y2 I L (GRf pb)) (PS (fun (r : MI) => Fr KM I0 r) (fun (r : MI) => Fr KM I0 r)) := by
  intro k
  induction k with
  | zero =>
    intro y1 y2 I hI r hr
    rw [LF_X12_takeNumber_73] at hr
    cases hr
  | succ k ih =>
    intro y1 y2 I hI
    rw [LF_X12_takeNumber_73]
    refine Pre.b1 (Ψ := fun _ => True) Pre.an (fun v19 _ => ?_)
    refine Pre.b1 (Ψ := fun _ => True) Pre.an (fun b21 _ => ?_)
    refine Pre.ite ?_ ?_
    ·
      exact Pre.so (show (fun (r : MI) => Fr KM I0 r) _ from hI)
    ·
      refine Pre.ite ?_ ?_
      ·
        refine Pre.b1 (Ψ := (fun (r : MI) => Fr KM I0 r)) (fs_F_X12_wrong _ _ _ hI) (fun I30 h_I30 => ?_)
        exact Pre.so (show (fun (r : MI) => Fr KM I0 r) _ from h_I30)
      ·
        refine Pre.b1 (Ψ := fun _ => True) Pre.an (fun v25 _ => ?_)
        refine Pre.wm (Fr.up (K := KM) (I0 := I0) hI (by unfold KM; omega)) (fun I27 h_I27 => ?_)
        refine Pre.wv ?_
        refine Pre.wm (Fr.up (K := KM) (I0 := I0) h_I27 (by unfold KM; omega)) (fun I29 h_I29 => ?_)
        exact ih _ _ _ h_I29
theorem fs_F_X12_takeNumber {N : Nat}  (I : MI)  (hI : Fr KM I0 I) : Pre (F_X12_takeNumber N 24  I L (GRf pb)) (fun (r : MI) => Fr KM I0 r) := by
  rw [F_X12_takeNumber]
  refine Pre.ite ?_ Pre.no
  refine Pre.wm (Fr.up (K := KM) (I0 := I0) hI (by unfold KM; omega)) (fun I1 h_I1 => ?_)
  refine Pre.b1 (Ψ := fun _ => True) Pre.an (fun v2 _ => ?_)
  refine Pre.b1 (Ψ := fun _ => True) Pre.an (fun s4 _ => ?_)
  refine Pre.b1 (Ψ := fun _ => True) Pre.an (fun s8 _ => ?_)
  refine Pre.wm (Fr.up (K := KM) (I0 := I0) h_I1 (by unfold KM; omega)) (fun I12 h_I12 => ?_)
  refine Pre.b1 (Ψ := fun _ => True) Pre.an (fun v13 _ => ?_)
  refine Pre.b1 (Ψ := fun _ => True) Pre.an (fun b15 _ => ?_)
  refine Pre.ite ?_ ?_
  ·
    refine Pre.b1 (Ψ := (fun (r : MI) => Fr KM I0 r)) (fs_F_X12_wrong _ _ _ h_I12) (fun I39 h_I39 => ?_)
    exact Pre.so h_I39
  ·
    refine Pre.wm (Fr.up (K := KM) (I0 := I0) h_I12 (by unfold KM; omega)) (fun I18 h_I18 => ?_)
    refine Pre.bs (fs_LF_X12_takeNumber_73 _ _ _ _ h_I18) (fun z32 h_z32 => ?_) (fun z32 h_z32 => ?_)
    ·
      exact Pre.so h_z32
    ·
      refine Pre.b1 (Ψ := fun _ => True) Pre.an (fun s34 _ => ?_)
      refine Pre.wm (Fr.up (K := KM) (I0 := I0) h_z32 (by unfold KM; omega)) (fun I38 h_I38 => ?_)
      exact Pre.so h_I38
theorem fs_LF_X12_next_9 {N : Nat} : ∀ (k : Nat)  (I : MI), Fr KM I0 I → Pre (LF_X12_next_9 N k 24  I L (GRf pb)) (fun (r : MI) => Fr KM I0 r) := by
  intro k
  induction k with
  | zero =>
    intro I hI r hr
    rw [LF_X12_next_9] at hr
    cases hr
  | succ k ih =>
    intro I hI
    rw [LF_X12_next_9]
    refine Pre.b1 (Ψ := fun _ => True) Pre.an (fun v2 _ => ?_)
    refine Pre.ite ?_ ?_
    ·
      refine Pre.wm (Fr.up (K := KM) (I0 := I0) hI (by unfold KM; omega)) (fun I5 h_I5 => ?_)
      exact ih _ h_I5
    ·
      refine Pre.b1 (Ψ := fun _ => True) Pre.an (fun v6 _ => ?_)
      refine Pre.ite ?_ ?_
      ·
        refine Pre.wm (Fr.up (K := KM) (I0 := I0) hI (by unfold KM; omega)) (fun I9 h_I9 => ?_)
        exact ih _ h_I9
      ·
        exact Pre.so hI
theorem fs_F_X12_next {N : Nat}  (I : MI)  (hI : Fr KM I0 I) : Pre (F_X12_next N 24  I L (GRf pb)) (fun (r : Bool × MI) => Fr KM I0 r.2) := by
  rw [F_X12_next]
  refine Pre.ite ?_ Pre.no
  refine Pre.ite ?_ ?_
  ·
    refine Pre.b1 (Ψ := (fun (r : MI) => Fr KM I0 r)) (fs_LF_X12_next_9 _ _ hI) (fun z10 h_z10 => ?_)
    refine Pre.wm (Fr.up (K := KM) (I0 := I0) h_z10 (by unfold KM; omega)) (fun I12 h_I12 => ?_)
    refine Pre.b1 (Ψ := fun _ => True) Pre.an (fun v13 _ => ?_)
    refine Pre.b1 (Ψ := (fun (r : MI) => Fr KM I0 r)) ?_ (fun I15 h_I15 => ?_)
    ·
      refine Pre.ite ?_ ?_
      ·
        refine Pre.wm (Fr.up (K := KM) (I0 := I0) h_I12 (by unfold KM; omega)) (fun I64 h_I64 => ?_)
        exact Pre.so h_I64
      ·
        refine Pre.b1 (Ψ := fun _ => True) Pre.an (fun b19 _ => ?_)
        refine Pre.b1 (Ψ := (fun (r : MI) => Fr KM I0 r)) ?_ (fun I21 h_I21 => ?_)
        ·
          refine Pre.ite ?_ ?_
          ·
            refine Pre.b1 (Ψ := fun _ => True) Pre.an (fun b25 _ => ?_)
            refine Pre.b1 (Ψ := (fun (r : MI) => Fr KM I0 r)) ?_ (fun I27 h_I27 => ?_)
            ·
              refine Pre.ite ?_ ?_
              ·
                refine Pre.b1 (Ψ := (fun (r : MI) => Fr KM I0 r)) ?_ (fun I33 h_I33 => ?_)
                ·
                  refine Pre.ite ?_ ?_
                  ·
                    refine Pre.b1 (Ψ := (fun (r : MI) => Fr KM I0 r)) (fs_F_X12_takeNumber _ h_I12) (fun I60 h_I60 => ?_)
                    exact Pre.so h_I60
                  ·
                    refine Pre.b1 (Ψ := (fun (r : MI) => Fr KM I0 r)) ?_ (fun I37 h_I37 => ?_)
                    ·
                      refine Pre.ite ?_ ?_
                      ·
                        refine Pre.wm (Fr.up (K := KM) (I0 := I0) h_I12 (by unfold KM; omega)) (fun I41 h_I41 => ?_)
                        refine Pre.wm (Fr.up (K := KM) (I0 := I0) h_I41 (by unfold KM; omega)) (fun I42 h_I42 => ?_)
                        refine Pre.wm (Fr.up (K := KM) (I0 := I0) h_I42 (by unfold KM; omega)) (fun I43 h_I43 => ?_)
                        exact Pre.so h_I43
                      ·
                        refine Pre.b1 (Ψ := (fun (r : MI) => Fr KM I0 r)) ?_ (fun I44 h_I44 => ?_)
                        ·
                          refine Pre.ite ?_ ?_
                          ·
                            refine Pre.wm (Fr.up (K := KM) (I0 := I0) h_I12 (by unfold KM; omega)) (fun I48 h_I48 => ?_)
                            refine Pre.wm (Fr.up (K := KM) (I0 := I0) h_I48 (by unfold KM; omega)) (fun I49 h_I49 => ?_)
                            refine Pre.wm (Fr.up (K := KM) (I0 := I0) h_I49 (by unfold KM; omega)) (fun I50 h_I50 => ?_)
                            exact Pre.so h_I50
                          ·
                            refine Pre.b1 (Ψ := (fun (r : MI) => Fr KM I0 r)) ?_ (fun I51 h_I51 => ?_)
                            ·
                              refine Pre.ite ?_ ?_
                              ·
                                refine Pre.wm (Fr.up (K := KM) (I0 := I0) h_I12 (by unfold KM; omega)) (fun I57 h_I57 => ?_)
                                refine Pre.wm (Fr.up (K := KM) (I0 := I0) h_I57 (by unfold KM; omega)) (fun I58 h_I58 => ?_)
                                refine Pre.wm (Fr.up (K := KM) (I0 := I0) h_I58 (by unfold KM; omega)) (fun I59 h_I59 => ?_)
                                exact Pre.so h_I59
                              ·
                                refine Pre.b1 (Ψ := (fun (r : MI) => Fr KM I0 r)) (fs_F_X12_wrong _ _ _ h_I12) (fun I55 h_I55 => ?_)
                                exact Pre.so h_I55
                            ·
                              exact Pre.so h_I51
                        ·
                          exact Pre.so h_I44
                    ·
                      exact Pre.so h_I37
                ·
                  exact Pre.so h_I33
              ·
                refine Pre.b1 (Ψ := (fun (r : MI) => Fr KM I0 r)) (fs_F_X12_takeNumber _ h_I12) (fun I31 h_I31 => ?_)
                exact Pre.so h_I31
            ·
              exact Pre.so h_I27
          ·
            refine Pre.b1 (Ψ := (fun (r : MI) => Fr KM I0 r)) (fs_F_X12_takeWord _ h_I12) (fun I62 h_I62 => ?_)
            exact Pre.so h_I62
        ·
          exact Pre.so h_I21
    ·
      refine Pre.ite ?_ ?_
      ·
        exact Pre.so h_I15
      ·
        exact Pre.so h_I15
  ·
    exact Pre.so hI
theorem fs_F_X12_number {N : Nat} (x1 : Int32) (x2 : Int32) (I : MI)  (hI : Fr KM I0 I) : Pre (F_X12_number N 24 x1 x2 I L (GRf pb)) (fun (r : Int32 × MI) => Fr KM I0 r.2) := by
  rw [F_X12_number]
  refine Pre.ite ?_ Pre.no
  refine Pre.b2 (Ψ := (fun (r : Bool × MI) => Fr KM I0 r.2)) (fs_F_X12_next _ hI) (fun b1 I2 h_I2 => ?_)
  refine Pre.ite ?_ ?_
  ·
    exact Pre.so h_I2
  ·
    refine Pre.b1 (Ψ := (fun (r : MI) => Fr KM I0 r)) ?_ (fun I5 h_I5 => ?_)
    ·
      refine Pre.ite ?_ ?_
      ·
        refine Pre.b1 (Ψ := (fun (r : MI) => Fr KM I0 r)) ?_ (fun I9 h_I9 => ?_)
        ·
          refine Pre.ite ?_ ?_
          ·
            refine Pre.b1 (Ψ := (fun (r : MI) => Fr KM I0 r)) (fs_F_X12_wrong _ _ _ h_I2) (fun I13 h_I13 => ?_)
            exact Pre.so h_I13
          ·
            refine Pre.b1 (Ψ := (fun (r : MI) => Fr KM I0 r)) ?_ (fun I15 h_I15 => ?_)
            ·
              refine Pre.ite ?_ ?_
              ·
                exact Pre.so h_I2
              ·
                refine Pre.b1 (Ψ := (fun (r : MI) => Fr KM I0 r)) (fs_F_X12_wrong _ _ _ h_I2) (fun I19 h_I19 => ?_)
                exact Pre.so h_I19
            ·
              exact Pre.so h_I15
        ·
          exact Pre.so h_I9
      ·
        refine Pre.b1 (Ψ := (fun (r : MI) => Fr KM I0 r)) (fs_F_X12_wrong _ _ _ h_I2) (fun I21 h_I21 => ?_)
        exact Pre.so h_I21
    ·
      exact Pre.so h_I5
theorem fs_F_X12_sign {N : Nat} (x1 : Int32) (I : MI)  (hI : Fr KM I0 I) : Pre (F_X12_sign N 24 x1 I L (GRf pb)) (fun (r : MI) => Fr KM I0 r) := by
  rw [F_X12_sign]
  refine Pre.ite ?_ Pre.no
  refine Pre.b2 (Ψ := (fun (r : Bool × MI) => Fr KM I0 r.2)) (fs_F_X12_next _ hI) (fun b1 I2 h_I2 => ?_)
  refine Pre.ite ?_ ?_
  ·
    exact Pre.so h_I2
  ·
    refine Pre.ite ?_ ?_
    ·
      refine Pre.ite ?_ ?_
      ·
        exact Pre.so h_I2
      ·
        refine Pre.b1 (Ψ := (fun (r : MI) => Fr KM I0 r)) (fs_F_X12_wrong _ _ _ h_I2) (fun I9 h_I9 => ?_)
        exact Pre.so h_I9
    ·
      refine Pre.b1 (Ψ := (fun (r : MI) => Fr KM I0 r)) (fs_F_X12_wrong _ _ _ h_I2) (fun I6 h_I6 => ?_)
      exact Pre.so h_I6
theorem fs_LF_X12_readUnit_144 {N : Nat} : ∀ (k : Nat) (y2 : Int32) (y3 : Int32) (I : MI), Fr KM I0 I → Pre (LF_X12_readUnit_144 N k 24 y2 y3 I L (GRf pb)) (fun (r : MI) => Fr KM I0 r) := by
  intro k
  induction k with
  | zero =>
    intro y2 y3 I hI r hr
    rw [LF_X12_readUnit_144] at hr
    cases hr
  | succ k ih =>
    intro y2 y3 I hI
    rw [LF_X12_readUnit_144]
    refine Pre.ite ?_ ?_
    ·
      exact Pre.so hI
    ·
      refine Pre.ite ?_ ?_
      ·
        refine Pre.bd (Ψ := fun z => some z = rf (GRf pb) 24 19 20) (fun z hz => hz.symm) (fun a47 e_a47 => ?_)
        rw [rf_24_19] at e_a47
        have e_a47 := Option.some.inj e_a47
        subst e_a47
        refine Pre.b1 (Ψ := fun _ => True) Pre.an (fun s48 _ => ?_)
        refine Pre.bd (Fr.w1 (K := KM) (I0 := I0) hI (fun p => by unfold KM; omega)) (fun I54 h_I54 => ?_)
        refine Pre.wv ?_
        exact ih _ _ _ h_I54
      ·
        exact Pre.so hI
theorem fs_LF_X12_readUnit_199 {N : Nat} : ∀ (k : Nat) (y2 : Int32) (y3 : Int32) (I : MI), Fr KM I0 I → Pre (LF_X12_readUnit_199 N k 24 y2 y3 I L (GRf pb)) (fun (r : MI) => Fr KM I0 r) := by
  intro k
  induction k with
  | zero =>
    intro y2 y3 I hI r hr
    rw [LF_X12_readUnit_199] at hr
    cases hr
  | succ k ih =>
    intro y2 y3 I hI
    rw [LF_X12_readUnit_199]
    refine Pre.bd (Ψ := fun z => some z = rf (GRf pb) 24 18 20) (fun z hz => hz.symm) (fun a58 e_a58 => ?_)
    rw [rf_24_18] at e_a58
    have e_a58 := Option.some.inj e_a58
    subst e_a58
    refine Pre.bd (Ψ := fun _ => True) Pre.an (fun v59 _ => ?_)
    refine Pre.b1 (Ψ := fun _ => True) Pre.an (fun v60 _ => ?_)
    refine Pre.ite ?_ ?_
    ·
      exact Pre.so hI
    ·
      refine Pre.ite ?_ ?_
      ·
        refine Pre.bd (Ψ := fun z => some z = rf (GRf pb) 24 20 20) (fun z hz => hz.symm) (fun a64 e_a64 => ?_)
        rw [rf_24_20] at e_a64
        have e_a64 := Option.some.inj e_a64
        subst e_a64
        refine Pre.b2 (Ψ := (fun (r : Int32 × MI) => Fr KM I0 r.2)) (fs_F_X12_number _ _ _ hI) (fun v65 I66 h_I66 => ?_)
        refine Pre.bd (Fr.w1 (K := KM) (I0 := I0) h_I66 (fun p => by unfold KM; omega)) (fun I68 h_I68 => ?_)
        refine Pre.b1 (Ψ := (fun (r : MI) => Fr KM I0 r)) ?_ (fun I69 h_I69 => ?_)
        ·
          refine Pre.ite ?_ ?_
          ·
            refine Pre.bd (Ψ := fun _ => True) Pre.an (fun v73 _ => ?_)
            refine Pre.b1 (Ψ := fun _ => True) Pre.an (fun b74 _ => ?_)
            refine Pre.b1 (Ψ := (fun (r : MI) => Fr KM I0 r)) ?_ (fun I76 h_I76 => ?_)
            ·
              refine Pre.ite ?_ ?_
              ·
                refine Pre.b1 (Ψ := (fun (r : MI) => Fr KM I0 r)) (fs_F_X12_wrong _ _ _ h_I68) (fun I80 h_I80 => ?_)
                exact Pre.so h_I80
              ·
                exact Pre.so h_I68
            ·
              exact Pre.so h_I76
          ·
            exact Pre.so h_I68
        ·
          refine Pre.wv ?_
          exact ih _ _ _ h_I69
      ·
        exact Pre.so hI
theorem fs_F_X12_readUnit {N : Nat}  (I : MI)  (hI : Fr KM I0 I) : Pre (F_X12_readUnit N 24  I L (GRf pb)) (fun (r : Bool × MI) => Fr KM I0 r.2) := by
  rw [F_X12_readUnit]
  refine Pre.ite ?_ Pre.no
  refine Pre.b2 (Ψ := (fun (r : Bool × MI) => Fr KM I0 r.2)) (fs_F_X12_next _ hI) (fun b1 I2 h_I2 => ?_)
  refine Pre.ite ?_ ?_
  ·
    exact Pre.so h_I2
  ·
    refine Pre.ite ?_ ?_
    ·
      exact Pre.so h_I2
    ·
      refine Pre.b1 (Ψ := fun _ => True) Pre.an (fun s6 _ => ?_)
      refine Pre.ite ?_ ?_
      ·
        refine Pre.b1 (Ψ := fun _ => True) Pre.an (fun s14 _ => ?_)
        refine Pre.b1 (Ψ := (fun (r : MI) => Fr KM I0 r)) (fs_F_X12_wrong _ _ _ h_I2) (fun I18 h_I18 => ?_)
        exact Pre.so h_I18
      ·
        refine Pre.ite ?_ ?_
        ·
          refine Pre.b1 (Ψ := fun _ => True) Pre.an (fun s89 _ => ?_)
          refine Pre.b1 (Ψ := (fun (r : MI) => Fr KM I0 r)) (fs_F_X12_wrong _ _ _ h_I2) (fun I93 h_I93 => ?_)
          exact Pre.so h_I93
        ·
          refine Pre.wv ?_
          refine Pre.bd (Ψ := fun z => some z = rf (GRf pb) 24 18 20) (fun z hz => hz.symm) (fun a22 e_a22 => ?_)
          rw [rf_24_18] at e_a22
          have e_a22 := Option.some.inj e_a22
          subst e_a22
          refine Pre.bd (Ψ := fun z => some z = rf (GRf pb) 24 3 20) (fun z hz => hz.symm) (fun a23 e_a23 => ?_)
          rw [rf_24_3] at e_a23
          have e_a23 := Option.some.inj e_a23
          subst e_a23
          refine Pre.bd (Ψ := fun _ => True) Pre.an (fun v24 _ => ?_)
          refine Pre.bd (Fr.w1 (K := KM) (I0 := I0) h_I2 (fun p => by unfold KM; omega)) (fun I25 h_I25 => ?_)
          refine Pre.b2 (Ψ := (fun (r : Bool × MI) => Fr KM I0 r.2)) (fs_F_X12_next _ h_I25) (fun b26 I27 h_I27 => ?_)
          refine Pre.ite ?_ ?_
          ·
            exact Pre.so h_I27
          ·
            refine Pre.b1 (Ψ := (fun (r : MI) => Fr KM I0 r)) ?_ (fun I30 h_I30 => ?_)
            ·
              refine Pre.ite ?_ ?_
              ·
                refine Pre.bd (Ψ := fun z => some z = rf (GRf pb) 24 19 20) (fun z hz => hz.symm) (fun a34 e_a34 => ?_)
                rw [rf_24_19] at e_a34
                have e_a34 := Option.some.inj e_a34
                subst e_a34
                refine Pre.b1 (Ψ := fun _ => True) Pre.an (fun v35 _ => ?_)
                refine Pre.b1 (Ψ := (fun (r : MI) => Fr KM I0 r)) ?_ (fun I37 h_I37 => ?_)
                ·
                  refine Pre.ite ?_ ?_
                  ·
                    exact Pre.so h_I27
                  ·
                    refine Pre.b1 (Ψ := (fun (r : MI) => Fr KM I0 r)) (fs_F_X12_wrong _ _ _ h_I27) (fun I41 h_I41 => ?_)
                    exact Pre.so h_I41
                ·
                  exact Pre.so h_I37
              ·
                refine Pre.b1 (Ψ := (fun (r : MI) => Fr KM I0 r)) (fs_F_X12_wrong _ _ _ h_I27) (fun I43 h_I43 => ?_)
                exact Pre.so h_I43
            ·
              refine Pre.b1 (Ψ := (fun (r : MI) => Fr KM I0 r)) (fs_LF_X12_readUnit_144 _ _ _ _ h_I30) (fun z56 h_z56 => ?_)
              refine Pre.b1 (Ψ := (fun (r : MI) => Fr KM I0 r)) (fs_LF_X12_readUnit_199 _ _ _ _ h_z56) (fun z83 h_z83 => ?_)
              refine Pre.b1 (Ψ := (fun (r : MI) => Fr KM I0 r)) (fs_F_X12_sign _ _ h_z83) (fun I85 h_I85 => ?_)
              refine Pre.wm (Fr.up (K := KM) (I0 := I0) h_I85 (by unfold KM; omega)) (fun I87 h_I87 => ?_)
              refine Pre.ite ?_ ?_
              ·
                exact Pre.so h_I87
              ·
                exact Pre.so h_I87
theorem fs_F_X12_set (x1 : Int32) (x2 : Int32) (x3 : Int32) (I : MI)  (hI : Fr KM I0 I) : Pre (F_X12_set 24 x1 x2 x3 I L (GRf pb)) (fun (r : MI) => Fr KM I0 r) := by
  rw [F_X12_set]
  refine Pre.ite ?_ Pre.no
  refine Pre.bd (Ψ := fun z => some z = rf (GRf pb) 24 24 20) (fun z hz => hz.symm) (fun a1 e_a1 => ?_)
  rw [rf_24_24] at e_a1
  have e_a1 := Option.some.inj e_a1
  subst e_a1
  refine Pre.bd (Fr.w1 (K := KM) (I0 := I0) hI (fun p => by unfold KM; omega)) (fun I2 h_I2 => ?_)
  exact Pre.so h_I2
theorem fs_F_X12_grow (x1 : Int32) (x2 : Int32) (x3 : Int32) (I : MI)  (hI : Fr KM I0 I) : Pre (F_X12_grow 24 x1 x2 x3 I L (GRf pb)) (fun (r : MI) => Fr KM I0 r) := by
  rw [F_X12_grow]
  refine Pre.ite ?_ Pre.no
  refine Pre.bd (Ψ := fun z => some z = rf (GRf pb) 24 24 20) (fun z hz => hz.symm) (fun a1 e_a1 => ?_)
  rw [rf_24_24] at e_a1
  have e_a1 := Option.some.inj e_a1
  subst e_a1
  refine Pre.bd (Ψ := fun _ => True) Pre.an (fun v2 _ => ?_)
  refine Pre.bd (Fr.w1 (K := KM) (I0 := I0) hI (fun p => by unfold KM; omega)) (fun I3 h_I3 => ?_)
  exact Pre.so h_I3
theorem fs_F_X12_draw  (I : MI)  (hI : Fr KM I0 I) : Pre (F_X12_draw 24  I L (GRf pb)) (fun (r : Int32 × MI) => Fr KM I0 r.2) := by
  rw [F_X12_draw]
  refine Pre.ite ?_ Pre.no
  refine Pre.wm (Fr.up (K := KM) (I0 := I0) hI (by unfold KM; omega)) (fun I1 h_I1 => ?_)
  exact Pre.so h_I1
theorem fs_F_X12_noted (x1 : Int32) (x2 : Int32) (x3 : Int32) (I : MI)  (hI : Fr KM I0 I) : Pre (F_X12_noted 24 x1 x2 x3 I L (GRf pb)) (fun (r : MI) => Fr KM I0 r) := by
  rw [F_X12_noted]
  refine Pre.ite ?_ Pre.no
  refine Pre.b1 (Ψ := (fun (r : MI) => Fr KM I0 r)) ?_ (fun I1 h_I1 => ?_)
  ·
    refine Pre.ite ?_ ?_
    ·
      exact Pre.so hI
    ·
      refine Pre.bd (Ψ := fun z => some z = rf (GRf pb) 24 29 20) (fun z hz => hz.symm) (fun a5 e_a5 => ?_)
      rw [rf_24_29] at e_a5
      have e_a5 := Option.some.inj e_a5
      subst e_a5
      refine Pre.bd (Fr.w1 (K := KM) (I0 := I0) hI (fun p => by unfold KM; omega)) (fun I6 h_I6 => ?_)
      refine Pre.bd (Ψ := fun z => some z = rf (GRf pb) 24 30 20) (fun z hz => hz.symm) (fun a7 e_a7 => ?_)
      rw [rf_24_30] at e_a7
      have e_a7 := Option.some.inj e_a7
      subst e_a7
      refine Pre.bd (Fr.w1 (K := KM) (I0 := I0) h_I6 (fun p => by unfold KM; omega)) (fun I8 h_I8 => ?_)
      refine Pre.bd (Ψ := fun z => some z = rf (GRf pb) 24 31 20) (fun z hz => hz.symm) (fun a9 e_a9 => ?_)
      rw [rf_24_31] at e_a9
      have e_a9 := Option.some.inj e_a9
      subst e_a9
      refine Pre.bd (Fr.w1 (K := KM) (I0 := I0) h_I8 (fun p => by unfold KM; omega)) (fun I10 h_I10 => ?_)
      exact Pre.so h_I10
  ·
    refine Pre.wm (Fr.up (K := KM) (I0 := I0) h_I1 (by unfold KM; omega)) (fun I11 h_I11 => ?_)
    exact Pre.so h_I11
theorem fs_LF_X12_findLayers_26 {N : Nat} : ∀ (k : Nat) (y2 : Int32) (y3 : Int32) (y4 : Int32) (I : MI), Fr KM I0 I → Pre (LF_X12_findLayers_26 N k 24 y2 y3 y4 I L (GRf pb)) (fun (r : MI) => Fr KM I0 r) := by
  intro k
  induction k with
  | zero =>
    intro y2 y3 y4 I hI r hr
    rw [LF_X12_findLayers_26] at hr
    cases hr
  | succ k ih =>
    intro y2 y3 y4 I hI
    rw [LF_X12_findLayers_26]
    refine Pre.ite ?_ ?_
    ·
      exact Pre.so hI
    ·
      refine Pre.wv ?_
      refine Pre.bd (Ψ := fun z => some z = rf (GRf pb) 24 32 20) (fun z hz => hz.symm) (fun a9 e_a9 => ?_)
      rw [rf_24_32] at e_a9
      have e_a9 := Option.some.inj e_a9
      subst e_a9
      refine Pre.bd (Fr.w1 (K := KM) (I0 := I0) hI (fun p => by unfold KM; omega)) (fun I10 h_I10 => ?_)
      refine Pre.bd (Ψ := fun z => some z = rf (GRf pb) 24 0 20) (fun z hz => hz.symm) (fun a11 e_a11 => ?_)
      rw [rf_24_0] at e_a11
      have e_a11 := Option.some.inj e_a11
      subst e_a11
      refine Pre.bd (Ψ := fun _ => True) Pre.an (fun v12 _ => ?_)
      exact ih _ _ _ _ h_I10
theorem fs_F_X12_findLayers {N : Nat} (x1 : Int32) (I : MI)  (hI : Fr KM I0 I) : Pre (F_X12_findLayers N 24 x1 I L (GRf pb)) (fun (r : Int32 × MI) => Fr KM I0 r.2) := by
  rw [F_X12_findLayers]
  refine Pre.ite ?_ Pre.no
  refine Pre.b1 (Ψ := fun _ => True) Pre.an (fun z5 _ => ?_)
  refine Pre.b1 (Ψ := (fun (r : MI) => Fr KM I0 r)) (fs_LF_X12_findLayers_26 _ _ _ _ _ hI) (fun z13 h_z13 => ?_)
  exact Pre.so h_z13
theorem fs_F_X12_answer {N : Nat} (x1 : Int32) (x2 : Int32) (I : MI)  (hI : Fr KM I0 I) : Pre (F_X12_answer N 24 x1 x2 I L (GRf pb)) (fun (r : Int32 × MI) => Fr KM I0 r.2) := by
  rw [F_X12_answer]
  refine Pre.ite ?_ Pre.no
  refine Pre.b1 (Ψ := fun _ => True) Pre.an (fun v1 _ => ?_)
  refine Pre.b2 (Ψ := (fun (r : Int32 × MI) => Fr KM I0 r.2)) (fs_F_X12_findLayers _ _ hI) (fun v3 I4 h_I4 => ?_)
  refine Pre.b1 (Ψ := fun _ => True) Pre.an (fun z31 _ => ?_)
  exact Pre.so h_I4
theorem fs_F_X12_makeStore {N : Nat} (x1 : Int32) (x2 : Int32) (x3 : Int32) (x4 : Int32) (I : MI)  (hI : Fr KM I0 I) : Pre (F_X12_makeStore N 24 x1 x2 x3 x4 I L (GRf pb)) (fun (r : MI) => Fr KM I0 r) := by
  rw [F_X12_makeStore]
  refine Pre.ite ?_ Pre.no
  refine Pre.ite ?_ ?_
  ·
    refine Pre.b2 (Ψ := (fun (r : Int32 × MI) => Fr KM I0 r.2)) (fs_F_X12_draw _ hI) (fun v3 I4 h_I4 => ?_)
    refine Pre.b1 (Ψ := fun _ => True) Pre.an (fun v6 _ => ?_)
    refine Pre.b1 (Ψ := (fun (r : MI) => Fr KM I0 r)) (fs_F_X12_set _ _ _ _ h_I4) (fun I8 h_I8 => ?_)
    refine Pre.b2 (Ψ := (fun (r : Int32 × MI) => Fr KM I0 r.2)) (fs_F_X12_answer _ _ _ h_I8) (fun v10 I11 h_I11 => ?_)
    refine Pre.b1 (Ψ := (fun (r : MI) => Fr KM I0 r)) (fs_F_X12_set _ _ _ _ h_I11) (fun I13 h_I13 => ?_)
    refine Pre.b1 (Ψ := (fun (r : MI) => Fr KM I0 r)) (fs_F_X12_set _ _ _ _ h_I13) (fun I15 h_I15 => ?_)
    refine Pre.b1 (Ψ := (fun (r : MI) => Fr KM I0 r)) (fs_F_X12_set _ _ _ _ h_I15) (fun I17 h_I17 => ?_)
    refine Pre.b1 (Ψ := fun _ => True) Pre.an (fun v19 _ => ?_)
    refine Pre.b1 (Ψ := (fun (r : MI) => Fr KM I0 r)) (fs_F_X12_noted _ _ _ _ h_I17) (fun I21 h_I21 => ?_)
    exact Pre.so h_I21
  ·
    refine Pre.ite ?_ ?_
    ·
      refine Pre.b2 (Ψ := (fun (r : Int32 × MI) => Fr KM I0 r.2)) (fs_F_X12_draw _ hI) (fun v24 I25 h_I25 => ?_)
      refine Pre.b1 (Ψ := fun _ => True) Pre.an (fun v27 _ => ?_)
      refine Pre.b1 (Ψ := (fun (r : MI) => Fr KM I0 r)) (fs_F_X12_set _ _ _ _ h_I25) (fun I29 h_I29 => ?_)
      refine Pre.b1 (Ψ := fun _ => True) Pre.an (fun v31 _ => ?_)
      refine Pre.b1 (Ψ := (fun (r : MI) => Fr KM I0 r)) (fs_F_X12_set _ _ _ _ h_I29) (fun I33 h_I33 => ?_)
      refine Pre.b2 (Ψ := (fun (r : Int32 × MI) => Fr KM I0 r.2)) (fs_F_X12_answer _ _ _ h_I33) (fun v35 I36 h_I36 => ?_)
      refine Pre.b1 (Ψ := (fun (r : MI) => Fr KM I0 r)) (fs_F_X12_set _ _ _ _ h_I36) (fun I38 h_I38 => ?_)
      refine Pre.b1 (Ψ := fun _ => True) Pre.an (fun v40 _ => ?_)
      refine Pre.b1 (Ψ := (fun (r : MI) => Fr KM I0 r)) (fs_F_X12_noted _ _ _ _ h_I38) (fun I42 h_I42 => ?_)
      exact Pre.so h_I42
    ·
      refine Pre.ite ?_ ?_
      ·
        refine Pre.b1 (Ψ := (fun (r : MI) => Fr KM I0 r)) (fs_F_X12_set _ _ _ _ hI) (fun I45 h_I45 => ?_)
        refine Pre.b1 (Ψ := fun _ => True) Pre.an (fun v47 _ => ?_)
        refine Pre.b1 (Ψ := fun _ => True) Pre.an (fun v49 _ => ?_)
        refine Pre.b1 (Ψ := (fun (r : MI) => Fr KM I0 r)) (fs_F_X12_set _ _ _ _ h_I45) (fun I51 h_I51 => ?_)
        refine Pre.b1 (Ψ := (fun (r : MI) => Fr KM I0 r)) (fs_F_X12_set _ _ _ _ h_I51) (fun I53 h_I53 => ?_)
        refine Pre.b1 (Ψ := fun _ => True) Pre.an (fun v55 _ => ?_)
        refine Pre.b1 (Ψ := (fun (r : MI) => Fr KM I0 r)) (fs_F_X12_set _ _ _ _ h_I53) (fun I57 h_I57 => ?_)
        refine Pre.b2 (Ψ := (fun (r : Int32 × MI) => Fr KM I0 r.2)) (fs_F_X12_answer _ _ _ h_I57) (fun v59 I60 h_I60 => ?_)
        refine Pre.b1 (Ψ := (fun (r : MI) => Fr KM I0 r)) (fs_F_X12_set _ _ _ _ h_I60) (fun I62 h_I62 => ?_)
        refine Pre.b1 (Ψ := fun _ => True) Pre.an (fun v64 _ => ?_)
        refine Pre.b1 (Ψ := fun _ => True) Pre.an (fun v66 _ => ?_)
        refine Pre.b1 (Ψ := (fun (r : MI) => Fr KM I0 r)) (fs_F_X12_noted _ _ _ _ h_I62) (fun I68 h_I68 => ?_)
        exact Pre.so h_I68
      ·
        refine Pre.ite ?_ ?_
        ·
          refine Pre.b1 (Ψ := fun _ => True) Pre.an (fun v71 _ => ?_)
          refine Pre.b1 (Ψ := fun _ => True) Pre.an (fun v73 _ => ?_)
          refine Pre.b1 (Ψ := (fun (r : MI) => Fr KM I0 r)) (fs_F_X12_set _ _ _ _ hI) (fun I75 h_I75 => ?_)
          refine Pre.b1 (Ψ := fun _ => True) Pre.an (fun v77 _ => ?_)
          refine Pre.b1 (Ψ := (fun (r : MI) => Fr KM I0 r)) (fs_F_X12_set _ _ _ _ h_I75) (fun I79 h_I79 => ?_)
          refine Pre.b1 (Ψ := fun _ => True) Pre.an (fun v81 _ => ?_)
          refine Pre.b1 (Ψ := (fun (r : MI) => Fr KM I0 r)) (fs_F_X12_noted _ _ _ _ h_I79) (fun I83 h_I83 => ?_)
          exact Pre.so h_I83
        ·
          refine Pre.b1 (Ψ := fun _ => True) Pre.an (fun v85 _ => ?_)
          refine Pre.b1 (Ψ := (fun (r : MI) => Fr KM I0 r)) (fs_F_X12_set _ _ _ _ hI) (fun I87 h_I87 => ?_)
          refine Pre.b1 (Ψ := fun _ => True) Pre.an (fun v89 _ => ?_)
          refine Pre.b1 (Ψ := (fun (r : MI) => Fr KM I0 r)) (fs_F_X12_set _ _ _ _ h_I87) (fun I91 h_I91 => ?_)
          refine Pre.b1 (Ψ := (fun (r : MI) => Fr KM I0 r)) (fs_F_X12_set _ _ _ _ h_I91) (fun I93 h_I93 => ?_)
          refine Pre.b2 (Ψ := (fun (r : Int32 × MI) => Fr KM I0 r.2)) (fs_F_X12_answer _ _ _ h_I93) (fun v95 I96 h_I96 => ?_)
          refine Pre.b1 (Ψ := (fun (r : MI) => Fr KM I0 r)) (fs_F_X12_set _ _ _ _ h_I96) (fun I98 h_I98 => ?_)
          refine Pre.b1 (Ψ := fun _ => True) Pre.an (fun v100 _ => ?_)
          refine Pre.b1 (Ψ := fun _ => True) Pre.an (fun v102 _ => ?_)
          refine Pre.b1 (Ψ := (fun (r : MI) => Fr KM I0 r)) (fs_F_X12_noted _ _ _ _ h_I98) (fun I104 h_I104 => ?_)
          exact Pre.so h_I104
theorem fs_F_X12_makeLoad {N : Nat} (x1 : Int32) (x2 : Int32) (x3 : Int32) (x4 : Int32) (x5 : Int32) (I : MI)  (hI : Fr KM I0 I) : Pre (F_X12_makeLoad N 24 x1 x2 x3 x4 x5 I L (GRf pb)) (fun (r : MI) => Fr KM I0 r) := by
  rw [F_X12_makeLoad]
  refine Pre.ite ?_ Pre.no
  refine Pre.ite ?_ ?_
  ·
    refine Pre.b1 (Ψ := fun _ => True) Pre.an (fun v3 _ => ?_)
    refine Pre.b2 (Ψ := (fun (r : Int32 × MI) => Fr KM I0 r.2)) (fs_F_X12_draw _ hI) (fun v5 I6 h_I6 => ?_)
    refine Pre.b1 (Ψ := fun _ => True) Pre.an (fun v8 _ => ?_)
    refine Pre.b1 (Ψ := (fun (r : MI) => Fr KM I0 r)) (fs_F_X12_set _ _ _ _ h_I6) (fun I10 h_I10 => ?_)
    refine Pre.b1 (Ψ := (fun (r : MI) => Fr KM I0 r)) (fs_F_X12_set _ _ _ _ h_I10) (fun I12 h_I12 => ?_)
    refine Pre.b1 (Ψ := (fun (r : MI) => Fr KM I0 r)) (fs_F_X12_set _ _ _ _ h_I12) (fun I14 h_I14 => ?_)
    refine Pre.b2 (Ψ := (fun (r : Int32 × MI) => Fr KM I0 r.2)) (fs_F_X12_answer _ _ _ h_I14) (fun v16 I17 h_I17 => ?_)
    refine Pre.b1 (Ψ := (fun (r : MI) => Fr KM I0 r)) (fs_F_X12_set _ _ _ _ h_I17) (fun I19 h_I19 => ?_)
    refine Pre.b1 (Ψ := fun _ => True) Pre.an (fun v21 _ => ?_)
    refine Pre.wm (Fr.up (K := KM) (I0 := I0) h_I19 (by unfold KM; omega)) (fun I23 h_I23 => ?_)
    refine Pre.b1 (Ψ := fun _ => True) Pre.an (fun v24 _ => ?_)
    refine Pre.b1 (Ψ := (fun (r : MI) => Fr KM I0 r)) (fs_F_X12_noted _ _ _ _ h_I23) (fun I26 h_I26 => ?_)
    exact Pre.so h_I26
  ·
    refine Pre.ite ?_ ?_
    ·
      refine Pre.b2 (Ψ := (fun (r : Int32 × MI) => Fr KM I0 r.2)) (fs_F_X12_answer _ _ _ hI) (fun v29 I30 h_I30 => ?_)
      refine Pre.b1 (Ψ := (fun (r : MI) => Fr KM I0 r)) (fs_F_X12_set _ _ _ _ h_I30) (fun I32 h_I32 => ?_)
      refine Pre.b1 (Ψ := fun _ => True) Pre.an (fun v34 _ => ?_)
      refine Pre.b1 (Ψ := (fun (r : MI) => Fr KM I0 r)) (fs_F_X12_noted _ _ _ _ h_I32) (fun I36 h_I36 => ?_)
      exact Pre.so h_I36
    ·
      refine Pre.ite ?_ ?_
      ·
        refine Pre.b1 (Ψ := fun _ => True) Pre.an (fun v39 _ => ?_)
        refine Pre.b1 (Ψ := fun _ => True) Pre.an (fun v41 _ => ?_)
        refine Pre.b1 (Ψ := (fun (r : MI) => Fr KM I0 r)) (fs_F_X12_set _ _ _ _ hI) (fun I43 h_I43 => ?_)
        refine Pre.b1 (Ψ := (fun (r : MI) => Fr KM I0 r)) (fs_F_X12_set _ _ _ _ h_I43) (fun I45 h_I45 => ?_)
        refine Pre.b1 (Ψ := (fun (r : MI) => Fr KM I0 r)) (fs_F_X12_set _ _ _ _ h_I45) (fun I47 h_I47 => ?_)
        refine Pre.b2 (Ψ := (fun (r : Int32 × MI) => Fr KM I0 r.2)) (fs_F_X12_answer _ _ _ h_I47) (fun v49 I50 h_I50 => ?_)
        refine Pre.b1 (Ψ := (fun (r : MI) => Fr KM I0 r)) (fs_F_X12_noted _ _ _ _ h_I50) (fun I52 h_I52 => ?_)
        exact Pre.so h_I52
      ·
        refine Pre.ite ?_ ?_
        ·
          refine Pre.b1 (Ψ := fun _ => True) Pre.an (fun v55 _ => ?_)
          refine Pre.b1 (Ψ := (fun (r : MI) => Fr KM I0 r)) (fs_F_X12_set _ _ _ _ hI) (fun I57 h_I57 => ?_)
          refine Pre.b1 (Ψ := (fun (r : MI) => Fr KM I0 r)) (fs_F_X12_set _ _ _ _ h_I57) (fun I59 h_I59 => ?_)
          refine Pre.b1 (Ψ := (fun (r : MI) => Fr KM I0 r)) (fs_F_X12_set _ _ _ _ h_I59) (fun I61 h_I61 => ?_)
          refine Pre.b1 (Ψ := fun _ => True) Pre.an (fun v63 _ => ?_)
          refine Pre.b1 (Ψ := (fun (r : MI) => Fr KM I0 r)) (fs_F_X12_noted _ _ _ _ h_I61) (fun I65 h_I65 => ?_)
          exact Pre.so h_I65
        ·
          refine Pre.b1 (Ψ := fun _ => True) Pre.an (fun v67 _ => ?_)
          refine Pre.b1 (Ψ := fun _ => True) Pre.an (fun v69 _ => ?_)
          refine Pre.b1 (Ψ := (fun (r : MI) => Fr KM I0 r)) (fs_F_X12_set _ _ _ _ hI) (fun I71 h_I71 => ?_)
          refine Pre.b1 (Ψ := fun _ => True) Pre.an (fun v73 _ => ?_)
          refine Pre.b1 (Ψ := (fun (r : MI) => Fr KM I0 r)) (fs_F_X12_set _ _ _ _ h_I71) (fun I75 h_I75 => ?_)
          refine Pre.b1 (Ψ := fun _ => True) Pre.an (fun v77 _ => ?_)
          refine Pre.b1 (Ψ := (fun (r : MI) => Fr KM I0 r)) (fs_F_X12_noted _ _ _ _ h_I75) (fun I79 h_I79 => ?_)
          exact Pre.so h_I79
theorem fs_F_X12_makeSensor {N : Nat} (x1 : Int32) (x2 : Int32) (x3 : Int32) (x4 : Int32) (I : MI)  (hI : Fr KM I0 I) : Pre (F_X12_makeSensor N 24 x1 x2 x3 x4 I L (GRf pb)) (fun (r : MI) => Fr KM I0 r) := by
  rw [F_X12_makeSensor]
  refine Pre.ite ?_ Pre.no
  refine Pre.ite ?_ ?_
  ·
    refine Pre.b2 (Ψ := (fun (r : Int32 × MI) => Fr KM I0 r.2)) (fs_F_X12_draw _ hI) (fun v3 I4 h_I4 => ?_)
    refine Pre.b1 (Ψ := fun _ => True) Pre.an (fun v6 _ => ?_)
    refine Pre.b1 (Ψ := (fun (r : MI) => Fr KM I0 r)) (fs_F_X12_set _ _ _ _ h_I4) (fun I8 h_I8 => ?_)
    refine Pre.b2 (Ψ := (fun (r : Int32 × MI) => Fr KM I0 r.2)) (fs_F_X12_answer _ _ _ h_I8) (fun v10 I11 h_I11 => ?_)
    refine Pre.b1 (Ψ := (fun (r : MI) => Fr KM I0 r)) (fs_F_X12_set _ _ _ _ h_I11) (fun I13 h_I13 => ?_)
    refine Pre.b1 (Ψ := (fun (r : MI) => Fr KM I0 r)) (fs_F_X12_set _ _ _ _ h_I13) (fun I15 h_I15 => ?_)
    refine Pre.b1 (Ψ := (fun (r : MI) => Fr KM I0 r)) (fs_F_X12_set _ _ _ _ h_I15) (fun I17 h_I17 => ?_)
    refine Pre.b1 (Ψ := fun _ => True) Pre.an (fun v19 _ => ?_)
    refine Pre.b1 (Ψ := (fun (r : MI) => Fr KM I0 r)) (fs_F_X12_noted _ _ _ _ h_I17) (fun I21 h_I21 => ?_)
    exact Pre.so h_I21
  ·
    refine Pre.ite ?_ ?_
    ·
      refine Pre.b1 (Ψ := fun _ => True) Pre.an (fun v24 _ => ?_)
      refine Pre.b1 (Ψ := (fun (r : MI) => Fr KM I0 r)) (fs_F_X12_set _ _ _ _ hI) (fun I26 h_I26 => ?_)
      refine Pre.b1 (Ψ := (fun (r : MI) => Fr KM I0 r)) (fs_F_X12_set _ _ _ _ h_I26) (fun I28 h_I28 => ?_)
      refine Pre.b1 (Ψ := (fun (r : MI) => Fr KM I0 r)) (fs_F_X12_set _ _ _ _ h_I28) (fun I30 h_I30 => ?_)
      refine Pre.b2 (Ψ := (fun (r : Int32 × MI) => Fr KM I0 r.2)) (fs_F_X12_answer _ _ _ h_I30) (fun v32 I33 h_I33 => ?_)
      refine Pre.b1 (Ψ := (fun (r : MI) => Fr KM I0 r)) (fs_F_X12_set _ _ _ _ h_I33) (fun I35 h_I35 => ?_)
      refine Pre.b1 (Ψ := fun _ => True) Pre.an (fun v37 _ => ?_)
      refine Pre.b1 (Ψ := (fun (r : MI) => Fr KM I0 r)) (fs_F_X12_noted _ _ _ _ h_I35) (fun I39 h_I39 => ?_)
      exact Pre.so h_I39
    ·
      refine Pre.ite ?_ ?_
      ·
        refine Pre.b1 (Ψ := fun _ => True) Pre.an (fun v42 _ => ?_)
        refine Pre.b1 (Ψ := (fun (r : MI) => Fr KM I0 r)) (fs_F_X12_set _ _ _ _ hI) (fun I44 h_I44 => ?_)
        refine Pre.b2 (Ψ := (fun (r : Int32 × MI) => Fr KM I0 r.2)) (fs_F_X12_draw _ h_I44) (fun v46 I47 h_I47 => ?_)
        refine Pre.b1 (Ψ := fun _ => True) Pre.an (fun v49 _ => ?_)
        refine Pre.b1 (Ψ := (fun (r : MI) => Fr KM I0 r)) (fs_F_X12_set _ _ _ _ h_I47) (fun I51 h_I51 => ?_)
        refine Pre.b1 (Ψ := (fun (r : MI) => Fr KM I0 r)) (fs_F_X12_set _ _ _ _ h_I51) (fun I53 h_I53 => ?_)
        refine Pre.b2 (Ψ := (fun (r : Int32 × MI) => Fr KM I0 r.2)) (fs_F_X12_answer _ _ _ h_I53) (fun v55 I56 h_I56 => ?_)
        refine Pre.b1 (Ψ := (fun (r : MI) => Fr KM I0 r)) (fs_F_X12_set _ _ _ _ h_I56) (fun I58 h_I58 => ?_)
        refine Pre.b1 (Ψ := fun _ => True) Pre.an (fun v60 _ => ?_)
        refine Pre.b1 (Ψ := (fun (r : MI) => Fr KM I0 r)) (fs_F_X12_noted _ _ _ _ h_I58) (fun I62 h_I62 => ?_)
        exact Pre.so h_I62
      ·
        refine Pre.ite ?_ ?_
        ·
          refine Pre.b1 (Ψ := fun _ => True) Pre.an (fun v65 _ => ?_)
          refine Pre.b1 (Ψ := (fun (r : MI) => Fr KM I0 r)) (fs_F_X12_set _ _ _ _ hI) (fun I67 h_I67 => ?_)
          refine Pre.b1 (Ψ := fun _ => True) Pre.an (fun v69 _ => ?_)
          refine Pre.b1 (Ψ := (fun (r : MI) => Fr KM I0 r)) (fs_F_X12_noted _ _ _ _ h_I67) (fun I71 h_I71 => ?_)
          exact Pre.so h_I71
        ·
          refine Pre.ite ?_ ?_
          ·
            refine Pre.b1 (Ψ := fun _ => True) Pre.an (fun v74 _ => ?_)
            refine Pre.b1 (Ψ := (fun (r : MI) => Fr KM I0 r)) (fs_F_X12_set _ _ _ _ hI) (fun I76 h_I76 => ?_)
            refine Pre.b1 (Ψ := (fun (r : MI) => Fr KM I0 r)) (fs_F_X12_set _ _ _ _ h_I76) (fun I78 h_I78 => ?_)
            refine Pre.b1 (Ψ := fun _ => True) Pre.an (fun v80 _ => ?_)
            refine Pre.b1 (Ψ := (fun (r : MI) => Fr KM I0 r)) (fs_F_X12_noted _ _ _ _ h_I78) (fun I82 h_I82 => ?_)
            exact Pre.so h_I82
          ·
            refine Pre.b1 (Ψ := fun _ => True) Pre.an (fun v84 _ => ?_)
            refine Pre.b2 (Ψ := (fun (r : Int32 × MI) => Fr KM I0 r.2)) (fs_F_X12_draw _ hI) (fun v86 I87 h_I87 => ?_)
            refine Pre.b1 (Ψ := fun _ => True) Pre.an (fun v89 _ => ?_)
            refine Pre.b1 (Ψ := (fun (r : MI) => Fr KM I0 r)) (fs_F_X12_set _ _ _ _ h_I87) (fun I91 h_I91 => ?_)
            refine Pre.b1 (Ψ := (fun (r : MI) => Fr KM I0 r)) (fs_F_X12_set _ _ _ _ h_I91) (fun I93 h_I93 => ?_)
            refine Pre.b1 (Ψ := (fun (r : MI) => Fr KM I0 r)) (fs_F_X12_set _ _ _ _ h_I93) (fun I95 h_I95 => ?_)
            refine Pre.b1 (Ψ := fun _ => True) Pre.an (fun v97 _ => ?_)
            refine Pre.b1 (Ψ := (fun (r : MI) => Fr KM I0 r)) (fs_F_X12_noted _ _ _ _ h_I95) (fun I99 h_I99 => ?_)
            exact Pre.so h_I99
theorem fs_F_X12_makeActuator {N : Nat} (x1 : Int32) (x2 : Int32) (x3 : Int32) (x4 : Int32) (I : MI)  (hI : Fr KM I0 I) : Pre (F_X12_makeActuator N 24 x1 x2 x3 x4 I L (GRf pb)) (fun (r : MI) => Fr KM I0 r) := by
  rw [F_X12_makeActuator]
  refine Pre.ite ?_ Pre.no
  refine Pre.ite ?_ ?_
  ·
    refine Pre.b2 (Ψ := (fun (r : Int32 × MI) => Fr KM I0 r.2)) (fs_F_X12_answer _ _ _ hI) (fun v3 I4 h_I4 => ?_)
    refine Pre.b1 (Ψ := (fun (r : MI) => Fr KM I0 r)) (fs_F_X12_set _ _ _ _ h_I4) (fun I6 h_I6 => ?_)
    refine Pre.b1 (Ψ := (fun (r : MI) => Fr KM I0 r)) (fs_F_X12_set _ _ _ _ h_I6) (fun I8 h_I8 => ?_)
    refine Pre.b2 (Ψ := (fun (r : Int32 × MI) => Fr KM I0 r.2)) (fs_F_X12_answer _ _ _ h_I8) (fun v10 I11 h_I11 => ?_)
    refine Pre.b1 (Ψ := (fun (r : MI) => Fr KM I0 r)) (fs_F_X12_set _ _ _ _ h_I11) (fun I13 h_I13 => ?_)
    refine Pre.b1 (Ψ := fun _ => True) Pre.an (fun v15 _ => ?_)
    refine Pre.b1 (Ψ := fun _ => True) Pre.an (fun v17 _ => ?_)
    refine Pre.b1 (Ψ := (fun (r : MI) => Fr KM I0 r)) (fs_F_X12_noted _ _ _ _ h_I13) (fun I19 h_I19 => ?_)
    exact Pre.so h_I19
  ·
    refine Pre.ite ?_ ?_
    ·
      refine Pre.b1 (Ψ := fun _ => True) Pre.an (fun v22 _ => ?_)
      refine Pre.b1 (Ψ := (fun (r : MI) => Fr KM I0 r)) (fs_F_X12_set _ _ _ _ hI) (fun I24 h_I24 => ?_)
      refine Pre.b1 (Ψ := (fun (r : MI) => Fr KM I0 r)) (fs_F_X12_set _ _ _ _ h_I24) (fun I26 h_I26 => ?_)
      refine Pre.b1 (Ψ := fun _ => True) Pre.an (fun v28 _ => ?_)
      refine Pre.b1 (Ψ := fun _ => True) Pre.an (fun v30 _ => ?_)
      refine Pre.b1 (Ψ := (fun (r : MI) => Fr KM I0 r)) (fs_F_X12_noted _ _ _ _ h_I26) (fun I32 h_I32 => ?_)
      exact Pre.so h_I32
    ·
      refine Pre.ite ?_ ?_
      ·
        refine Pre.b1 (Ψ := fun _ => True) Pre.an (fun v35 _ => ?_)
        refine Pre.b1 (Ψ := (fun (r : MI) => Fr KM I0 r)) (fs_F_X12_set _ _ _ _ hI) (fun I37 h_I37 => ?_)
        refine Pre.b2 (Ψ := (fun (r : Int32 × MI) => Fr KM I0 r.2)) (fs_F_X12_answer _ _ _ h_I37) (fun v39 I40 h_I40 => ?_)
        refine Pre.b1 (Ψ := (fun (r : MI) => Fr KM I0 r)) (fs_F_X12_set _ _ _ _ h_I40) (fun I42 h_I42 => ?_)
        refine Pre.b1 (Ψ := fun _ => True) Pre.an (fun v44 _ => ?_)
        refine Pre.b1 (Ψ := (fun (r : MI) => Fr KM I0 r)) (fs_F_X12_noted _ _ _ _ h_I42) (fun I46 h_I46 => ?_)
        exact Pre.so h_I46
      ·
        refine Pre.ite ?_ ?_
        ·
          refine Pre.b2 (Ψ := (fun (r : Int32 × MI) => Fr KM I0 r.2)) (fs_F_X12_draw _ hI) (fun v49 I50 h_I50 => ?_)
          refine Pre.b1 (Ψ := fun _ => True) Pre.an (fun v52 _ => ?_)
          refine Pre.b1 (Ψ := (fun (r : MI) => Fr KM I0 r)) (fs_F_X12_set _ _ _ _ h_I50) (fun I54 h_I54 => ?_)
          refine Pre.b1 (Ψ := (fun (r : MI) => Fr KM I0 r)) (fs_F_X12_set _ _ _ _ h_I54) (fun I56 h_I56 => ?_)
          refine Pre.b1 (Ψ := (fun (r : MI) => Fr KM I0 r)) (fs_F_X12_set _ _ _ _ h_I56) (fun I58 h_I58 => ?_)
          refine Pre.b2 (Ψ := (fun (r : Int32 × MI) => Fr KM I0 r.2)) (fs_F_X12_answer _ _ _ h_I58) (fun v60 I61 h_I61 => ?_)
          refine Pre.b1 (Ψ := (fun (r : MI) => Fr KM I0 r)) (fs_F_X12_noted _ _ _ _ h_I61) (fun I63 h_I63 => ?_)
          exact Pre.so h_I63
        ·
          refine Pre.b1 (Ψ := fun _ => True) Pre.an (fun v65 _ => ?_)
          refine Pre.b1 (Ψ := (fun (r : MI) => Fr KM I0 r)) (fs_F_X12_set _ _ _ _ hI) (fun I67 h_I67 => ?_)
          refine Pre.b2 (Ψ := (fun (r : Int32 × MI) => Fr KM I0 r.2)) (fs_F_X12_answer _ _ _ h_I67) (fun v69 I70 h_I70 => ?_)
          refine Pre.b1 (Ψ := (fun (r : MI) => Fr KM I0 r)) (fs_F_X12_set _ _ _ _ h_I70) (fun I72 h_I72 => ?_)
          refine Pre.b1 (Ψ := fun _ => True) Pre.an (fun v74 _ => ?_)
          refine Pre.b1 (Ψ := (fun (r : MI) => Fr KM I0 r)) (fs_F_X12_noted _ _ _ _ h_I72) (fun I76 h_I76 => ?_)
          exact Pre.so h_I76
theorem fs_F_X12_makeSource {N : Nat} (x1 : Int32) (x2 : Int32) (x3 : Int32) (x4 : Int32) (I : MI)  (hI : Fr KM I0 I) : Pre (F_X12_makeSource N 24 x1 x2 x3 x4 I L (GRf pb)) (fun (r : MI) => Fr KM I0 r) := by
  rw [F_X12_makeSource]
  refine Pre.ite ?_ Pre.no
  refine Pre.ite ?_ ?_
  ·
    refine Pre.b2 (Ψ := (fun (r : Int32 × MI) => Fr KM I0 r.2)) (fs_F_X12_draw _ hI) (fun v3 I4 h_I4 => ?_)
    refine Pre.b1 (Ψ := fun _ => True) Pre.an (fun v6 _ => ?_)
    refine Pre.b1 (Ψ := (fun (r : MI) => Fr KM I0 r)) (fs_F_X12_set _ _ _ _ h_I4) (fun I8 h_I8 => ?_)
    refine Pre.b1 (Ψ := (fun (r : MI) => Fr KM I0 r)) (fs_F_X12_set _ _ _ _ h_I8) (fun I10 h_I10 => ?_)
    refine Pre.b2 (Ψ := (fun (r : Int32 × MI) => Fr KM I0 r.2)) (fs_F_X12_answer _ _ _ h_I10) (fun v12 I13 h_I13 => ?_)
    refine Pre.b1 (Ψ := (fun (r : MI) => Fr KM I0 r)) (fs_F_X12_noted _ _ _ _ h_I13) (fun I15 h_I15 => ?_)
    exact Pre.so h_I15
  ·
    refine Pre.ite ?_ ?_
    ·
      refine Pre.b1 (Ψ := fun _ => True) Pre.an (fun v18 _ => ?_)
      refine Pre.b1 (Ψ := (fun (r : MI) => Fr KM I0 r)) (fs_F_X12_set _ _ _ _ hI) (fun I20 h_I20 => ?_)
      refine Pre.b1 (Ψ := (fun (r : MI) => Fr KM I0 r)) (fs_F_X12_set _ _ _ _ h_I20) (fun I22 h_I22 => ?_)
      refine Pre.b1 (Ψ := fun _ => True) Pre.an (fun v24 _ => ?_)
      refine Pre.b1 (Ψ := (fun (r : MI) => Fr KM I0 r)) (fs_F_X12_noted _ _ _ _ h_I22) (fun I26 h_I26 => ?_)
      exact Pre.so h_I26
    ·
      refine Pre.ite ?_ ?_
      ·
        refine Pre.b1 (Ψ := fun _ => True) Pre.an (fun v29 _ => ?_)
        refine Pre.b1 (Ψ := fun _ => True) Pre.an (fun v31 _ => ?_)
        refine Pre.b1 (Ψ := fun _ => True) Pre.an (fun v33 _ => ?_)
        refine Pre.b1 (Ψ := (fun (r : MI) => Fr KM I0 r)) (fs_F_X12_set _ _ _ _ hI) (fun I35 h_I35 => ?_)
        refine Pre.b1 (Ψ := fun _ => True) Pre.an (fun v37 _ => ?_)
        refine Pre.b1 (Ψ := (fun (r : MI) => Fr KM I0 r)) (fs_F_X12_noted _ _ _ _ h_I35) (fun I39 h_I39 => ?_)
        exact Pre.so h_I39
      ·
        refine Pre.b1 (Ψ := fun _ => True) Pre.an (fun v41 _ => ?_)
        refine Pre.b1 (Ψ := fun _ => True) Pre.an (fun v43 _ => ?_)
        refine Pre.b1 (Ψ := (fun (r : MI) => Fr KM I0 r)) (fs_F_X12_set _ _ _ _ hI) (fun I45 h_I45 => ?_)
        refine Pre.b1 (Ψ := (fun (r : MI) => Fr KM I0 r)) (fs_F_X12_set _ _ _ _ h_I45) (fun I47 h_I47 => ?_)
        refine Pre.b1 (Ψ := fun _ => True) Pre.an (fun v49 _ => ?_)
        refine Pre.b1 (Ψ := (fun (r : MI) => Fr KM I0 r)) (fs_F_X12_noted _ _ _ _ h_I47) (fun I51 h_I51 => ?_)
        exact Pre.so h_I51
theorem fs_F_X12_makeLink {N : Nat} (x1 : Int32) (x2 : Int32) (x3 : Int32) (x4 : Int32) (x5 : Int32) (I : MI)  (hI : Fr KM I0 I) : Pre (F_X12_makeLink N 24 x1 x2 x3 x4 x5 I L (GRf pb)) (fun (r : MI) => Fr KM I0 r) := by
  rw [F_X12_makeLink]
  refine Pre.ite ?_ Pre.no
  refine Pre.ite ?_ ?_
  ·
    refine Pre.b2 (Ψ := (fun (r : Int32 × MI) => Fr KM I0 r.2)) (fs_F_X12_answer _ _ _ hI) (fun v3 I4 h_I4 => ?_)
    refine Pre.b2 (Ψ := (fun (r : Int32 × MI) => Fr KM I0 r.2)) (fs_F_X12_draw _ h_I4) (fun v6 I7 h_I7 => ?_)
    refine Pre.b1 (Ψ := fun _ => True) Pre.an (fun v9 _ => ?_)
    refine Pre.b1 (Ψ := (fun (r : MI) => Fr KM I0 r)) (fs_F_X12_set _ _ _ _ h_I7) (fun I11 h_I11 => ?_)
    refine Pre.b1 (Ψ := (fun (r : MI) => Fr KM I0 r)) (fs_F_X12_set _ _ _ _ h_I11) (fun I13 h_I13 => ?_)
    refine Pre.b1 (Ψ := (fun (r : MI) => Fr KM I0 r)) (fs_F_X12_set _ _ _ _ h_I13) (fun I15 h_I15 => ?_)
    refine Pre.b1 (Ψ := fun _ => True) Pre.an (fun v17 _ => ?_)
    refine Pre.b1 (Ψ := (fun (r : MI) => Fr KM I0 r)) (fs_F_X12_noted _ _ _ _ h_I15) (fun I19 h_I19 => ?_)
    exact Pre.so h_I19
  ·
    refine Pre.ite ?_ ?_
    ·
      refine Pre.b1 (Ψ := fun _ => True) Pre.an (fun v22 _ => ?_)
      refine Pre.b1 (Ψ := (fun (r : MI) => Fr KM I0 r)) (fs_F_X12_set _ _ _ _ hI) (fun I24 h_I24 => ?_)
      refine Pre.b1 (Ψ := fun _ => True) Pre.an (fun v26 _ => ?_)
      refine Pre.b1 (Ψ := (fun (r : MI) => Fr KM I0 r)) (fs_F_X12_noted _ _ _ _ h_I24) (fun I28 h_I28 => ?_)
      exact Pre.so h_I28
    ·
      refine Pre.b1 (Ψ := fun _ => True) Pre.an (fun v30 _ => ?_)
      refine Pre.b1 (Ψ := (fun (r : MI) => Fr KM I0 r)) (fs_F_X12_set _ _ _ _ hI) (fun I32 h_I32 => ?_)
      refine Pre.b1 (Ψ := (fun (r : MI) => Fr KM I0 r)) (fs_F_X12_grow _ _ _ _ h_I32) (fun I34 h_I34 => ?_)
      refine Pre.b1 (Ψ := fun _ => True) Pre.an (fun v36 _ => ?_)
      refine Pre.b1 (Ψ := fun _ => True) Pre.an (fun v38 _ => ?_)
      refine Pre.b1 (Ψ := (fun (r : MI) => Fr KM I0 r)) (fs_F_X12_noted _ _ _ _ h_I34) (fun I40 h_I40 => ?_)
      exact Pre.so h_I40
theorem fs_F_X12_makeUnit {N : Nat} (x1 : Int32) (I : MI)  (hI : Fr KM I0 I) : Pre (F_X12_makeUnit N 24 x1 I L (GRf pb)) (fun (r : MI) => Fr KM I0 r) := by
  rw [F_X12_makeUnit]
  refine Pre.ite ?_ Pre.no
  refine Pre.b1 (Ψ := (fun (r : MI) => Fr KM I0 r)) (fs_F_X12_set _ _ _ _ hI) (fun I1 h_I1 => ?_)
  refine Pre.b2 (Ψ := (fun (r : Int32 × MI) => Fr KM I0 r.2)) (fs_F_X12_draw _ h_I1) (fun v3 I4 h_I4 => ?_)
  refine Pre.b1 (Ψ := (fun (r : MI) => Fr KM I0 r)) (fs_F_X12_set _ _ _ _ h_I4) (fun I6 h_I6 => ?_)
  refine Pre.b2 (Ψ := (fun (r : Int32 × MI) => Fr KM I0 r.2)) (fs_F_X12_answer _ _ _ h_I6) (fun v8 I9 h_I9 => ?_)
  refine Pre.b1 (Ψ := (fun (r : MI) => Fr KM I0 r)) (fs_F_X12_set _ _ _ _ h_I9) (fun I11 h_I11 => ?_)
  refine Pre.b1 (Ψ := (fun (r : MI) => Fr KM I0 r)) (fs_F_X12_set _ _ _ _ h_I11) (fun I13 h_I13 => ?_)
  refine Pre.b2 (Ψ := (fun (r : Int32 × MI) => Fr KM I0 r.2)) (fs_F_X12_answer _ _ _ h_I13) (fun v15 I16 h_I16 => ?_)
  refine Pre.b1 (Ψ := fun _ => True) Pre.an (fun s18 _ => ?_)
  refine Pre.b1 (Ψ := (fun (r : MI) => Fr KM I0 r)) (fs_F_X12_set _ _ _ _ h_I16) (fun I22 h_I22 => ?_)
  refine Pre.b1 (Ψ := fun _ => True) Pre.an (fun v24 _ => ?_)
  refine Pre.wm (Fr.up (K := KM) (I0 := I0) h_I22 (by unfold KM; omega)) (fun I26 h_I26 => ?_)
  refine Pre.b2 (Ψ := (fun (r : Int32 × MI) => Fr KM I0 r.2)) (fs_F_X12_answer _ _ _ h_I26) (fun v27 I28 h_I28 => ?_)
  refine Pre.b1 (Ψ := (fun (r : MI) => Fr KM I0 r)) (fs_F_X12_set _ _ _ _ h_I28) (fun I30 h_I30 => ?_)
  refine Pre.b1 (Ψ := fun _ => True) Pre.an (fun v32 _ => ?_)
  refine Pre.b1 (Ψ := (fun (r : MI) => Fr KM I0 r)) (fs_F_X12_noted _ _ _ _ h_I30) (fun I34 h_I34 => ?_)
  exact Pre.so h_I34
theorem fs_F_X12_makeLayer {N : Nat} (x1 : Int32) (x2 : Int32) (I : MI)  (hI : Fr KM I0 I) : Pre (F_X12_makeLayer N 24 x1 x2 I L (GRf pb)) (fun (r : MI) => Fr KM I0 r) := by
  rw [F_X12_makeLayer]
  refine Pre.ite ?_ Pre.no
  refine Pre.bd (Ψ := fun z => some z = rf (GRf pb) 24 23 20) (fun z hz => hz.symm) (fun a1 e_a1 => ?_)
  rw [rf_24_23] at e_a1
  have e_a1 := Option.some.inj e_a1
  subst e_a1
  refine Pre.bd (Ψ := fun _ => True) Pre.an (fun v2 _ => ?_)
  refine Pre.bd (Ψ := fun _ => True) Pre.an (fun v3 _ => ?_)
  refine Pre.bd (Ψ := fun _ => True) Pre.an (fun v4 _ => ?_)
  refine Pre.ite ?_ ?_
  ·
    refine Pre.b1 (Ψ := (fun (r : MI) => Fr KM I0 r)) (fs_F_X12_makeUnit _ _ hI) (fun I29 h_I29 => ?_)
    exact Pre.so h_I29
  ·
    refine Pre.ite ?_ ?_
    ·
      refine Pre.ite ?_ ?_
      ·
        refine Pre.b1 (Ψ := (fun (r : MI) => Fr KM I0 r)) (fs_F_X12_makeLoad _ _ _ _ _ _ hI) (fun I8 h_I8 => ?_)
        exact Pre.so h_I8
      ·
        refine Pre.ite ?_ ?_
        ·
          refine Pre.b1 (Ψ := (fun (r : MI) => Fr KM I0 r)) (fs_F_X12_makeLoad _ _ _ _ _ _ hI) (fun I11 h_I11 => ?_)
          exact Pre.so h_I11
        ·
          refine Pre.ite ?_ ?_
          ·
            refine Pre.b1 (Ψ := (fun (r : MI) => Fr KM I0 r)) (fs_F_X12_makeLoad _ _ _ _ _ _ hI) (fun I25 h_I25 => ?_)
            exact Pre.so h_I25
          ·
            refine Pre.ite ?_ ?_
            ·
              refine Pre.ite ?_ ?_
              ·
                refine Pre.ite ?_ ?_
                ·
                  refine Pre.b1 (Ψ := (fun (r : MI) => Fr KM I0 r)) (fs_F_X12_makeLink _ _ _ _ _ _ hI) (fun I17 h_I17 => ?_)
                  exact Pre.so h_I17
                ·
                  refine Pre.b1 (Ψ := (fun (r : MI) => Fr KM I0 r)) (fs_F_X12_makeSource _ _ _ _ _ hI) (fun I19 h_I19 => ?_)
                  exact Pre.so h_I19
              ·
                refine Pre.b1 (Ψ := (fun (r : MI) => Fr KM I0 r)) (fs_F_X12_makeActuator _ _ _ _ _ hI) (fun I21 h_I21 => ?_)
                exact Pre.so h_I21
            ·
              refine Pre.b1 (Ψ := (fun (r : MI) => Fr KM I0 r)) (fs_F_X12_makeSensor _ _ _ _ _ hI) (fun I23 h_I23 => ?_)
              exact Pre.so h_I23
    ·
      refine Pre.b1 (Ψ := (fun (r : MI) => Fr KM I0 r)) (fs_F_X12_makeStore _ _ _ _ _ hI) (fun I27 h_I27 => ?_)
      exact Pre.so h_I27
theorem fs_LF_X12_make_2 {N : Nat} : ∀ (k : Nat) (y1 : Int32) (y2 : Int32) (y3 : Int32) (I : MI), Fr KM I0 I → Pre (LF_X12_make_2 N k 24 y1 y2 y3 I L (GRf pb)) (fun (r : MI) => Fr KM I0 r) := by
  intro k
  induction k with
  | zero =>
    intro y1 y2 y3 I hI r hr
    rw [LF_X12_make_2] at hr
    cases hr
  | succ k ih =>
    intro y1 y2 y3 I hI
    rw [LF_X12_make_2]
    refine Pre.ite ?_ ?_
    ·
      exact Pre.so hI
    ·
      refine Pre.b1 (Ψ := (fun (r : MI) => Fr KM I0 r)) (fs_F_X12_set _ _ _ _ hI) (fun I2 h_I2 => ?_)
      refine Pre.wv ?_
      exact ih _ _ _ _ h_I2
theorem fs_LF_X12_make_93 {N : Nat} : ∀ (k : Nat) (y1 : Int32) (y3 : Int32) (y4 : Int32) (I : MI), Fr KM I0 I → Pre (LF_X12_make_93 N k 24 y1 y3 y4 I L (GRf pb)) (fun (r : MI) => Fr KM I0 r) := by
  intro k
  induction k with
  | zero =>
    intro y1 y3 y4 I hI r hr
    rw [LF_X12_make_93] at hr
    cases hr
  | succ k ih =>
    intro y1 y3 y4 I hI
    rw [LF_X12_make_93]
    refine Pre.ite ?_ ?_
    ·
      exact Pre.so hI
    ·
      refine Pre.bd (Ψ := fun z => some z = rf (GRf pb) 24 33 20) (fun z hz => hz.symm) (fun a35 e_a35 => ?_)
      rw [rf_24_33] at e_a35
      have e_a35 := Option.some.inj e_a35
      subst e_a35
      refine Pre.bd (Ψ := fun z => some z = rf (GRf pb) 24 32 20) (fun z hz => hz.symm) (fun a36 e_a36 => ?_)
      rw [rf_24_32] at e_a36
      have e_a36 := Option.some.inj e_a36
      subst e_a36
      refine Pre.bd (Ψ := fun _ => True) Pre.an (fun v37 _ => ?_)
      refine Pre.bd (Fr.w1 (K := KM) (I0 := I0) hI (fun p => by unfold KM; omega)) (fun I38 h_I38 => ?_)
      refine Pre.wv ?_
      exact ih _ _ _ _ h_I38
theorem fs_LF_X12_make_122 {N : Nat} : ∀ (k : Nat) (y1 : Int32) (y3 : Int32) (y4 : Int32) (I : MI), Fr KM I0 I → Pre (LF_X12_make_122 N k 24 y1 y3 y4 I L (GRf pb)) (fun (r : MI) => Fr KM I0 r) := by
  intro k
  induction k with
  | zero =>
    intro y1 y3 y4 I hI r hr
    rw [LF_X12_make_122] at hr
    cases hr
  | succ k ih =>
    intro y1 y3 y4 I hI
    rw [LF_X12_make_122]
    refine Pre.ite ?_ ?_
    ·
      exact Pre.so hI
    ·
      refine Pre.bd (Ψ := fun z => some z = rf (GRf pb) 24 33 20) (fun z hz => hz.symm) (fun a43 e_a43 => ?_)
      rw [rf_24_33] at e_a43
      have e_a43 := Option.some.inj e_a43
      subst e_a43
      refine Pre.bd (Ψ := fun _ => True) Pre.an (fun v44 _ => ?_)
      refine Pre.b1 (Ψ := (fun (r : MI) => Fr KM I0 r)) (fs_F_X12_makeLayer _ _ _ hI) (fun I45 h_I45 => ?_)
      refine Pre.wv ?_
      exact ih _ _ _ _ h_I45
theorem fs_F_X12_make {N : Nat} (x1 : Int32) (x2 : Int32) (I : MI)  (hI : Fr KM I0 I) : Pre (F_X12_make N 24 x1 x2 I L (GRf pb)) (fun (r : MI) => Fr KM I0 r) := by
  rw [F_X12_make]
  refine Pre.ite ?_ Pre.no
  refine Pre.b1 (Ψ := (fun (r : MI) => Fr KM I0 r)) (fs_LF_X12_make_2 _ _ _ _ _ hI) (fun z5 h_z5 => ?_)
  refine Pre.b1 (Ψ := (fun (r : MI) => Fr KM I0 r)) (fs_F_X12_set _ _ _ _ h_z5) (fun I7 h_I7 => ?_)
  refine Pre.b1 (Ψ := (fun (r : MI) => Fr KM I0 r)) (fs_F_X12_set _ _ _ _ h_I7) (fun I9 h_I9 => ?_)
  refine Pre.b1 (Ψ := fun _ => True) Pre.an (fun b11 _ => ?_)
  refine Pre.b1 (Ψ := (fun (r : MI) => Fr KM I0 r)) ?_ (fun I13 h_I13 => ?_)
  ·
    refine Pre.ite ?_ ?_
    ·
      exact Pre.so h_I9
    ·
      refine Pre.b1 (Ψ := (fun (r : MI) => Fr KM I0 r)) (fs_F_X12_set _ _ _ _ h_I9) (fun I17 h_I17 => ?_)
      exact Pre.so h_I17
  ·
    refine Pre.b1 (Ψ := (fun (r : MI) => Fr KM I0 r)) ?_ (fun I19 h_I19 => ?_)
    ·
      refine Pre.ite ?_ ?_
      ·
        refine Pre.b1 (Ψ := (fun (r : MI) => Fr KM I0 r)) (fs_F_X12_set _ _ _ _ h_I13) (fun I23 h_I23 => ?_)
        exact Pre.so h_I23
      ·
        exact Pre.so h_I13
    ·
      refine Pre.b1 (Ψ := (fun (r : MI) => Fr KM I0 r)) ?_ (fun I25 h_I25 => ?_)
      ·
        refine Pre.ite ?_ ?_
        ·
          refine Pre.b1 (Ψ := (fun (r : MI) => Fr KM I0 r)) (fs_F_X12_set _ _ _ _ h_I19) (fun I29 h_I29 => ?_)
          exact Pre.so h_I29
        ·
          exact Pre.so h_I19
      ·
        refine Pre.b2 (Ψ := (fun (r : Int32 × MI) => Fr KM I0 r.2)) (fs_F_X12_findLayers _ _ h_I25) (fun v31 I32 h_I32 => ?_)
        refine Pre.b1 (Ψ := (fun (r : MI) => Fr KM I0 r)) (fs_LF_X12_make_93 _ _ _ _ _ h_I32) (fun z40 h_z40 => ?_)
        refine Pre.b1 (Ψ := (fun (r : MI) => Fr KM I0 r)) (fs_LF_X12_make_122 _ _ _ _ _ h_z40) (fun z48 h_z48 => ?_)
        refine Pre.b2 (Ψ := (fun (r : Int32 × MI) => Fr KM I0 r.2)) (fs_F_X12_answer _ _ _ h_z48) (fun v50 I51 h_I51 => ?_)
        refine Pre.b1 (Ψ := fun _ => True) Pre.an (fun v53 _ => ?_)
        refine Pre.b1 (Ψ := (fun (r : MI) => Fr KM I0 r)) (fs_F_X12_set _ _ _ _ h_I51) (fun I55 h_I55 => ?_)
        exact Pre.so h_I55
theorem fs_LF_X12_clear_32 {N : Nat} : ∀ (k : Nat) (y1 : Int32) (I : MI), Fr KM I0 I → Pre (LF_X12_clear_32 N k 24 y1 I L (GRf pb)) (fun (r : MI) => Fr KM I0 r) := by
  intro k
  induction k with
  | zero =>
    intro y1 I hI r hr
    rw [LF_X12_clear_32] at hr
    cases hr
  | succ k ih =>
    intro y1 I hI
    rw [LF_X12_clear_32]
    refine Pre.ite ?_ ?_
    ·
      exact Pre.so hI
    ·
      refine Pre.bd (Ψ := fun z => some z = rf (GRf pb) 24 36 20) (fun z hz => hz.symm) (fun a8 e_a8 => ?_)
      rw [rf_24_36] at e_a8
      have e_a8 := Option.some.inj e_a8
      subst e_a8
      refine Pre.bd (Fr.w1 (K := KM) (I0 := I0) hI (fun p => by unfold KM; omega)) (fun I9 h_I9 => ?_)
      refine Pre.bd (Ψ := fun z => some z = rf (GRf pb) 24 37 20) (fun z hz => hz.symm) (fun a10 e_a10 => ?_)
      rw [rf_24_37] at e_a10
      have e_a10 := Option.some.inj e_a10
      subst e_a10
      refine Pre.bd (Fr.w1 (K := KM) (I0 := I0) h_I9 (fun p => by unfold KM; omega)) (fun I11 h_I11 => ?_)
      refine Pre.bd (Ψ := fun z => some z = rf (GRf pb) 24 38 20) (fun z hz => hz.symm) (fun a12 e_a12 => ?_)
      rw [rf_24_38] at e_a12
      have e_a12 := Option.some.inj e_a12
      subst e_a12
      refine Pre.bd (Fr.w1 (K := KM) (I0 := I0) h_I11 (fun p => by unfold KM; omega)) (fun I13 h_I13 => ?_)
      refine Pre.wv ?_
      exact ih _ _ h_I13
theorem fs_F_X12_clear {N : Nat}  (I : MI)  (hI : Fr KM I0 I) : Pre (F_X12_clear N 24  I L (GRf pb)) (fun (r : MI) => Fr KM I0 r) := by
  rw [F_X12_clear]
  refine Pre.ite ?_ Pre.no
  refine Pre.wm (Fr.up (K := KM) (I0 := I0) hI (by unfold KM; omega)) (fun I1 h_I1 => ?_)
  refine Pre.wm (Fr.up (K := KM) (I0 := I0) h_I1 (by unfold KM; omega)) (fun I2 h_I2 => ?_)
  refine Pre.wm (Fr.up (K := KM) (I0 := I0) h_I2 (by unfold KM; omega)) (fun I3 h_I3 => ?_)
  refine Pre.wm (Fr.up (K := KM) (I0 := I0) h_I3 (by unfold KM; omega)) (fun I4 h_I4 => ?_)
  refine Pre.wm (Fr.up (K := KM) (I0 := I0) h_I4 (by unfold KM; omega)) (fun I5 h_I5 => ?_)
  refine Pre.wm (Fr.up (K := KM) (I0 := I0) h_I5 (by unfold KM; omega)) (fun I6 h_I6 => ?_)
  refine Pre.b1 (Ψ := (fun (r : MI) => Fr KM I0 r)) (fs_LF_X12_clear_32 _ _ _ h_I6) (fun z15 h_z15 => ?_)
  refine Pre.wm (Fr.up (K := KM) (I0 := I0) h_z15 (by unfold KM; omega)) (fun I17 h_I17 => ?_)
  refine Pre.wm (Fr.up (K := KM) (I0 := I0) h_I17 (by unfold KM; omega)) (fun I18 h_I18 => ?_)
  refine Pre.wm (Fr.up (K := KM) (I0 := I0) h_I18 (by unfold KM; omega)) (fun I19 h_I19 => ?_)
  refine Pre.wm (Fr.up (K := KM) (I0 := I0) h_I19 (by unfold KM; omega)) (fun I20 h_I20 => ?_)
  refine Pre.wm (Fr.up (K := KM) (I0 := I0) h_I20 (by unfold KM; omega)) (fun I21 h_I21 => ?_)
  refine Pre.wm (Fr.up (K := KM) (I0 := I0) h_I21 (by unfold KM; omega)) (fun I22 h_I22 => ?_)
  refine Pre.wm (Fr.up (K := KM) (I0 := I0) h_I22 (by unfold KM; omega)) (fun I23 h_I23 => ?_)
  refine Pre.wm (Fr.up (K := KM) (I0 := I0) h_I23 (by unfold KM; omega)) (fun I24 h_I24 => ?_)
  refine Pre.wm (Fr.up (K := KM) (I0 := I0) h_I24 (by unfold KM; omega)) (fun I25 h_I25 => ?_)
  refine Pre.wm (Fr.up (K := KM) (I0 := I0) h_I25 (by unfold KM; omega)) (fun I26 h_I26 => ?_)
  refine Pre.wm (Fr.up (K := KM) (I0 := I0) h_I26 (by unfold KM; omega)) (fun I27 h_I27 => ?_)
  refine Pre.wm (Fr.up (K := KM) (I0 := I0) h_I27 (by unfold KM; omega)) (fun I28 h_I28 => ?_)
  exact Pre.so h_I28
theorem fs_LF_X12_load_22 {N : Nat} : ∀ (k : Nat) (y2 : Int32) (I : MI), Fr KM I0 I → Pre (LF_X12_load_22 N k 24 y2 I L (GRf pb)) (fun (r : MI) => Fr KM I0 r) := by
  intro k
  induction k with
  | zero =>
    intro y2 I hI r hr
    rw [LF_X12_load_22] at hr
    cases hr
  | succ k ih =>
    intro y2 I hI
    rw [LF_X12_load_22]
    refine Pre.ite ?_ ?_
    ·
      exact Pre.so hI
    ·
      refine Pre.b2 (Ψ := (fun (r : Bool × MI) => Fr KM I0 r.2)) (fs_F_X12_readUnit _ hI) (fun b8 I9 h_I9 => ?_)
      refine Pre.wv ?_
      exact ih _ _ h_I9
theorem fs_LF_X12_load_53 {N : Nat} : ∀ (k : Nat) (y3 : Int32) (I : MI), Fr KM I0 I → Pre (LF_X12_load_53 N k 24 y3 I L (GRf pb)) (fun (r : MI) => Fr KM I0 r) := by
  intro k
  induction k with
  | zero =>
    intro y3 I hI r hr
    rw [LF_X12_load_53] at hr
    cases hr
  | succ k ih =>
    intro y3 I hI
    rw [LF_X12_load_53]
    refine Pre.ite ?_ ?_
    ·
      exact Pre.so hI
    ·
      refine Pre.bd (Ψ := fun z => some z = rf (GRf pb) 24 22 20) (fun z hz => hz.symm) (fun a17 e_a17 => ?_)
      rw [rf_24_22] at e_a17
      have e_a17 := Option.some.inj e_a17
      subst e_a17
      refine Pre.bd (Ψ := fun z => some z = rf (GRf pb) 24 19 20) (fun z hz => hz.symm) (fun a18 e_a18 => ?_)
      rw [rf_24_19] at e_a18
      have e_a18 := Option.some.inj e_a18
      subst e_a18
      refine Pre.bd (Ψ := fun _ => True) Pre.an (fun v19 _ => ?_)
      refine Pre.bd (Fr.w1 (K := KM) (I0 := I0) hI (fun p => by unfold KM; omega)) (fun I20 h_I20 => ?_)
      refine Pre.wv ?_
      exact ih _ _ h_I20
theorem fs_LF_X12_load_80 {N : Nat} : ∀ (k : Nat) (y3 : Int32) (I : MI), Fr KM I0 I → Pre (LF_X12_load_80 N k 24 y3 I L (GRf pb)) (fun (r : MI) => Fr KM I0 r) := by
  intro k
  induction k with
  | zero =>
    intro y3 I hI r hr
    rw [LF_X12_load_80] at hr
    cases hr
  | succ k ih =>
    intro y3 I hI
    rw [LF_X12_load_80]
    refine Pre.ite ?_ ?_
    ·
      exact Pre.so hI
    ·
      refine Pre.bd (Ψ := fun z => some z = rf (GRf pb) 24 23 20) (fun z hz => hz.symm) (fun a25 e_a25 => ?_)
      rw [rf_24_23] at e_a25
      have e_a25 := Option.some.inj e_a25
      subst e_a25
      refine Pre.bd (Ψ := fun z => some z = rf (GRf pb) 24 20 20) (fun z hz => hz.symm) (fun a26 e_a26 => ?_)
      rw [rf_24_20] at e_a26
      have e_a26 := Option.some.inj e_a26
      subst e_a26
      refine Pre.bd (Ψ := fun _ => True) Pre.an (fun v27 _ => ?_)
      refine Pre.bd (Fr.w1 (K := KM) (I0 := I0) hI (fun p => by unfold KM; omega)) (fun I28 h_I28 => ?_)
      refine Pre.wv ?_
      exact ih _ _ h_I28
theorem fs_LF_X12_load_110 {N : Nat} : ∀ (k : Nat) (y3 : Int32) (I : MI), Fr KM I0 I → Pre (LF_X12_load_110 N k 24 y3 I L (GRf pb)) (fun (r : MI) => Fr KM I0 r) := by
  intro k
  induction k with
  | zero =>
    intro y3 I hI r hr
    rw [LF_X12_load_110] at hr
    cases hr
  | succ k ih =>
    intro y3 I hI
    rw [LF_X12_load_110]
    refine Pre.ite ?_ ?_
    ·
      exact Pre.so hI
    ·
      refine Pre.bd (Ψ := fun z => some z = rf (GRf pb) 24 18 20) (fun z hz => hz.symm) (fun a35 e_a35 => ?_)
      rw [rf_24_18] at e_a35
      have e_a35 := Option.some.inj e_a35
      subst e_a35
      refine Pre.bd (Ψ := fun _ => True) Pre.an (fun v36 _ => ?_)
      refine Pre.b1 (Ψ := (fun (r : MI) => Fr KM I0 r)) (fs_F_X12_make _ _ _ hI) (fun I37 h_I37 => ?_)
      refine Pre.wv ?_
      exact ih _ _ h_I37
theorem fs_F_X12_unitNext {N : Nat} (x1 : Int32) (I : MI)  (hI : Fr KM I0 I) : Pre (F_X12_unitNext N 24 x1 I L (GRf pb)) (fun (r : Int32 × MI) => Fr KM I0 r.2) := by
  rw [F_X12_unitNext]
  refine Pre.ite ?_ Pre.no
  refine Pre.b2 (Ψ := (fun (r : Bool × MI) => Fr KM I0 r.2)) (fs_F_X12_next _ hI) (fun b1 I2 h_I2 => ?_)
  refine Pre.ite ?_ ?_
  ·
    exact Pre.so h_I2
  ·
    refine Pre.ite ?_ ?_
    ·
      refine Pre.bd (Ψ := fun z => some z = rf (GRf pb) 24 22 20) (fun z hz => hz.symm) (fun a6 e_a6 => ?_)
      rw [rf_24_22] at e_a6
      have e_a6 := Option.some.inj e_a6
      subst e_a6
      refine Pre.b1 (Ψ := fun _ => True) Pre.an (fun v7 _ => ?_)
      refine Pre.b1 (Ψ := (fun (r : MI) => Fr KM I0 r)) ?_ (fun I9 h_I9 => ?_)
      ·
        refine Pre.ite ?_ ?_
        ·
          refine Pre.b1 (Ψ := (fun (r : MI) => Fr KM I0 r)) (fs_F_X12_wrong _ _ _ h_I2) (fun I13 h_I13 => ?_)
          exact Pre.so h_I13
        ·
          refine Pre.b1 (Ψ := fun _ => True) Pre.an (fun b15 _ => ?_)
          refine Pre.b1 (Ψ := (fun (r : MI) => Fr KM I0 r)) ?_ (fun I17 h_I17 => ?_)
          ·
            refine Pre.ite ?_ ?_
            ·
              refine Pre.b1 (Ψ := (fun (r : MI) => Fr KM I0 r)) (fs_F_X12_wrong _ _ _ h_I2) (fun I21 h_I21 => ?_)
              exact Pre.so h_I21
            ·
              exact Pre.so h_I2
          ·
            exact Pre.so h_I17
      ·
        exact Pre.so h_I9
    ·
      refine Pre.b1 (Ψ := (fun (r : MI) => Fr KM I0 r)) (fs_F_X12_wrong _ _ _ h_I2) (fun I23 h_I23 => ?_)
      exact Pre.so h_I23
theorem fs_F_X12_planWord {N : Nat} (x1 : Int32) (x2 : Int32) (I : MI)  (hI : Fr KM I0 I) : Pre (F_X12_planWord N 24 x1 x2 I L (GRf pb)) (fun (r : Int32 × MI) => Fr KM I0 r.2) := by
  rw [F_X12_planWord]
  refine Pre.ite ?_ Pre.no
  refine Pre.b1 (Ψ := fun _ => True) Pre.an (fun s1 _ => ?_)
  refine Pre.b1 (Ψ := (fun (r : MI) => Fr KM I0 r)) ?_ (fun I8 h_I8 => ?_)
  ·
    refine Pre.ite ?_ ?_
    ·
      refine Pre.b1 (Ψ := (fun (r : MI) => Fr KM I0 r)) (fs_F_X12_wrong _ _ _ hI) (fun I12 h_I12 => ?_)
      exact Pre.so h_I12
    ·
      exact Pre.so hI
  ·
    exact Pre.so h_I8
theorem fs_F_X12_readTerm {N : Nat} (x1 : Int32) (I : MI)  (hI : Fr KM I0 I) : Pre (F_X12_readTerm N 24 x1 I L (GRf pb)) (fun (r : MI) => Fr KM I0 r) := by
  rw [F_X12_readTerm]
  refine Pre.ite ?_ Pre.no
  refine Pre.b2 (Ψ := (fun (r : Bool × MI) => Fr KM I0 r.2)) (fs_F_X12_next _ hI) (fun b1 I2 h_I2 => ?_)
  refine Pre.ite ?_ ?_
  ·
    exact Pre.so h_I2
  ·
    refine Pre.b2 (Ψ := (fun (r : Int32 × MI) => Fr KM I0 r.2)) (fs_F_X12_planWord _ _ _ h_I2) (fun v5 I6 h_I6 => ?_)
    refine Pre.ite ?_ ?_
    ·
      refine Pre.bd (Ψ := fun z => some z = rf (GRf pb) 24 55 20) (fun z hz => hz.symm) (fun a9 e_a9 => ?_)
      rw [rf_24_55] at e_a9
      have e_a9 := Option.some.inj e_a9
      subst e_a9
      refine Pre.bd (Fr.w1 (K := KM) (I0 := I0) h_I6 (fun p => by unfold KM; omega)) (fun I10 h_I10 => ?_)
      refine Pre.b1 (Ψ := (fun (r : MI) => Fr KM I0 r)) ?_ (fun I11 h_I11 => ?_)
      ·
        refine Pre.ite ?_ ?_
        ·
          refine Pre.b2 (Ψ := (fun (r : Int32 × MI) => Fr KM I0 r.2)) (fs_F_X12_unitNext _ _ h_I10) (fun v47 I48 h_I48 => ?_)
          refine Pre.bd (Fr.w1 (K := KM) (I0 := I0) h_I48 (fun p => by unfold KM; omega)) (fun I50 h_I50 => ?_)
          exact Pre.so h_I50
        ·
          refine Pre.b1 (Ψ := (fun (r : MI) => Fr KM I0 r)) ?_ (fun I15 h_I15 => ?_)
          ·
            refine Pre.ite ?_ ?_
            ·
              refine Pre.b2 (Ψ := (fun (r : Int32 × MI) => Fr KM I0 r.2)) (fs_F_X12_unitNext _ _ h_I10) (fun v43 I44 h_I44 => ?_)
              refine Pre.bd (Fr.w1 (K := KM) (I0 := I0) h_I44 (fun p => by unfold KM; omega)) (fun I46 h_I46 => ?_)
              exact Pre.so h_I46
            ·
              refine Pre.b1 (Ψ := (fun (r : MI) => Fr KM I0 r)) ?_ (fun I19 h_I19 => ?_)
              ·
                refine Pre.ite ?_ ?_
                ·
                  refine Pre.b2 (Ψ := (fun (r : Int32 × MI) => Fr KM I0 r.2)) (fs_F_X12_unitNext _ _ h_I10) (fun v39 I40 h_I40 => ?_)
                  refine Pre.bd (Fr.w1 (K := KM) (I0 := I0) h_I40 (fun p => by unfold KM; omega)) (fun I42 h_I42 => ?_)
                  exact Pre.so h_I42
                ·
                  refine Pre.b1 (Ψ := (fun (r : MI) => Fr KM I0 r)) ?_ (fun I23 h_I23 => ?_)
                  ·
                    refine Pre.ite ?_ ?_
                    ·
                      refine Pre.b2 (Ψ := (fun (r : Int32 × MI) => Fr KM I0 r.2)) (fs_F_X12_unitNext _ _ h_I10) (fun v35 I36 h_I36 => ?_)
                      refine Pre.bd (Fr.w1 (K := KM) (I0 := I0) h_I36 (fun p => by unfold KM; omega)) (fun I38 h_I38 => ?_)
                      exact Pre.so h_I38
                    ·
                      refine Pre.b1 (Ψ := (fun (r : MI) => Fr KM I0 r)) ?_ (fun I27 h_I27 => ?_)
                      ·
                        refine Pre.ite ?_ ?_
                        ·
                          exact Pre.so h_I10
                        ·
                          refine Pre.b2 (Ψ := (fun (r : Int32 × MI) => Fr KM I0 r.2)) (fs_F_X12_number _ _ _ h_I10) (fun v31 I32 h_I32 => ?_)
                          refine Pre.bd (Fr.w1 (K := KM) (I0 := I0) h_I32 (fun p => by unfold KM; omega)) (fun I34 h_I34 => ?_)
                          exact Pre.so h_I34
                      ·
                        exact Pre.so h_I27
                  ·
                    exact Pre.so h_I23
              ·
                exact Pre.so h_I19
          ·
            exact Pre.so h_I15
      ·
        refine Pre.b2 (Ψ := (fun (r : Bool × MI) => Fr KM I0 r.2)) (fs_F_X12_next _ h_I11) (fun b51 I52 h_I52 => ?_)
        refine Pre.ite ?_ ?_
        ·
          exact Pre.so h_I52
        ·
          refine Pre.ite ?_ ?_
          ·
            refine Pre.ite ?_ ?_
            ·
              refine Pre.b1 (Ψ := (fun (r : MI) => Fr KM I0 r)) (fs_F_X12_wrong _ _ _ h_I52) (fun I68 h_I68 => ?_)
              exact Pre.so h_I68
            ·
              refine Pre.b1 (Ψ := fun _ => True) Pre.an (fun s59 _ => ?_)
              refine Pre.bd (Fr.w1 (K := KM) (I0 := I0) h_I52 (fun p => by unfold KM; omega)) (fun I63 h_I63 => ?_)
              refine Pre.b2 (Ψ := (fun (r : Int32 × MI) => Fr KM I0 r.2)) (fs_F_X12_number _ _ _ h_I63) (fun v64 I65 h_I65 => ?_)
              refine Pre.bd (Fr.w1 (K := KM) (I0 := I0) h_I65 (fun p => by unfold KM; omega)) (fun I67 h_I67 => ?_)
              exact Pre.so h_I67
          ·
            refine Pre.b1 (Ψ := (fun (r : MI) => Fr KM I0 r)) (fs_F_X12_wrong _ _ _ h_I52) (fun I56 h_I56 => ?_)
            exact Pre.so h_I56
    ·
      exact Pre.so h_I6
theorem fs_F_X12_readAct {N : Nat} (x1 : Int32) (I : MI)  (hI : Fr KM I0 I) : Pre (F_X12_readAct N 24 x1 I L (GRf pb)) (fun (r : MI) => Fr KM I0 r) := by
  rw [F_X12_readAct]
  refine Pre.ite ?_ Pre.no
  refine Pre.b2 (Ψ := (fun (r : Bool × MI) => Fr KM I0 r.2)) (fs_F_X12_next _ hI) (fun b1 I2 h_I2 => ?_)
  refine Pre.ite ?_ ?_
  ·
    exact Pre.so h_I2
  ·
    refine Pre.b2 (Ψ := (fun (r : Int32 × MI) => Fr KM I0 r.2)) (fs_F_X12_planWord _ _ _ h_I2) (fun v5 I6 h_I6 => ?_)
    refine Pre.ite ?_ ?_
    ·
      refine Pre.bd (Ψ := fun z => some z = rf (GRf pb) 24 55 20) (fun z hz => hz.symm) (fun a9 e_a9 => ?_)
      rw [rf_24_55] at e_a9
      have e_a9 := Option.some.inj e_a9
      subst e_a9
      refine Pre.bd (Fr.w1 (K := KM) (I0 := I0) h_I6 (fun p => by unfold KM; omega)) (fun I10 h_I10 => ?_)
      refine Pre.ite ?_ ?_
      ·
        refine Pre.b2 (Ψ := (fun (r : Int32 × MI) => Fr KM I0 r.2)) (fs_F_X12_number _ _ _ h_I10) (fun v34 I35 h_I35 => ?_)
        refine Pre.bd (Fr.w1 (K := KM) (I0 := I0) h_I35 (fun p => by unfold KM; omega)) (fun I37 h_I37 => ?_)
        exact Pre.so h_I37
      ·
        refine Pre.ite ?_ ?_
        ·
          refine Pre.b2 (Ψ := (fun (r : Int32 × MI) => Fr KM I0 r.2)) (fs_F_X12_number _ _ _ h_I10) (fun v26 I27 h_I27 => ?_)
          refine Pre.bd (Fr.w1 (K := KM) (I0 := I0) h_I27 (fun p => by unfold KM; omega)) (fun I29 h_I29 => ?_)
          refine Pre.b2 (Ψ := (fun (r : Int32 × MI) => Fr KM I0 r.2)) (fs_F_X12_number _ _ _ h_I29) (fun v30 I31 h_I31 => ?_)
          refine Pre.bd (Fr.w1 (K := KM) (I0 := I0) h_I31 (fun p => by unfold KM; omega)) (fun I33 h_I33 => ?_)
          exact Pre.so h_I33
        ·
          refine Pre.ite ?_ ?_
          ·
            refine Pre.b2 (Ψ := (fun (r : Int32 × MI) => Fr KM I0 r.2)) (fs_F_X12_number _ _ _ h_I10) (fun v22 I23 h_I23 => ?_)
            refine Pre.bd (Fr.w1 (K := KM) (I0 := I0) h_I23 (fun p => by unfold KM; omega)) (fun I25 h_I25 => ?_)
            exact Pre.so h_I25
          ·
            refine Pre.b1 (Ψ := fun _ => True) Pre.an (fun s14 _ => ?_)
            refine Pre.b2 (Ψ := (fun (r : Int32 × MI) => Fr KM I0 r.2)) (fs_F_X12_unitNext _ _ h_I10) (fun v18 I19 h_I19 => ?_)
            refine Pre.bd (Fr.w1 (K := KM) (I0 := I0) h_I19 (fun p => by unfold KM; omega)) (fun I21 h_I21 => ?_)
            exact Pre.so h_I21
    ·
      exact Pre.so h_I6
theorem fs_LF_X12_readItem_62 {N : Nat} : ∀ (k : Nat) (y1 : Int32) (y2 : Int32) (y3 : Int32) (I : MI), Fr KM I0 I → Pre (LF_X12_readItem_62 N k 24 y1 y2 y3 I L (GRf pb)) (fun (r : MI) => Fr KM I0 r) := by
  intro k
  induction k with
  | zero =>
    intro y1 y2 y3 I hI r hr
    rw [LF_X12_readItem_62] at hr
    cases hr
  | succ k ih =>
    intro y1 y2 y3 I hI
    rw [LF_X12_readItem_62]
    refine Pre.ite ?_ ?_
    ·
      exact Pre.so hI
    ·
      refine Pre.bd (Ψ := fun z => some z = rf (GRf pb) 24 55 20) (fun z hz => hz.symm) (fun a13 e_a13 => ?_)
      rw [rf_24_55] at e_a13
      have e_a13 := Option.some.inj e_a13
      subst e_a13
      refine Pre.bd (Fr.w1 (K := KM) (I0 := I0) hI (fun p => by unfold KM; omega)) (fun I14 h_I14 => ?_)
      refine Pre.wv ?_
      exact ih _ _ _ _ h_I14
theorem fs_F_X12_readItem {N : Nat}  (I : MI)  (hI : Fr KM I0 I) : Pre (F_X12_readItem N 24  I L (GRf pb)) (fun (r : Bool × MI) => Fr KM I0 r.2) := by
  rw [F_X12_readItem]
  refine Pre.ite ?_ Pre.no
  refine Pre.b2 (Ψ := (fun (r : Bool × MI) => Fr KM I0 r.2)) (fs_F_X12_next _ hI) (fun b1 I2 h_I2 => ?_)
  refine Pre.ite ?_ ?_
  ·
    exact Pre.so h_I2
  ·
    refine Pre.ite ?_ ?_
    ·
      exact Pre.so h_I2
    ·
      refine Pre.b2 (Ψ := (fun (r : Int32 × MI) => Fr KM I0 r.2)) (fs_F_X12_planWord _ _ _ h_I2) (fun v6 I7 h_I7 => ?_)
      refine Pre.ite ?_ ?_
      ·
        refine Pre.ite ?_ ?_
        ·
          refine Pre.b1 (Ψ := (fun (r : MI) => Fr KM I0 r)) (fs_F_X12_wrong _ _ _ h_I7) (fun I36 h_I36 => ?_)
          exact Pre.so h_I36
        ·
          refine Pre.wv ?_
          refine Pre.b1 (Ψ := (fun (r : MI) => Fr KM I0 r)) (fs_LF_X12_readItem_62 _ _ _ _ _ h_I7) (fun z16 h_z16 => ?_)
          refine Pre.bd (Ψ := fun z => some z = rf (GRf pb) 24 55 20) (fun z hz => hz.symm) (fun a18 e_a18 => ?_)
          rw [rf_24_55] at e_a18
          have e_a18 := Option.some.inj e_a18
          subst e_a18
          refine Pre.bd (Fr.w1 (K := KM) (I0 := I0) h_z16 (fun p => by unfold KM; omega)) (fun I19 h_I19 => ?_)
          refine Pre.b1 (Ψ := (fun (r : MI) => Fr KM I0 r)) ?_ (fun I20 h_I20 => ?_)
          ·
            refine Pre.ite ?_ ?_
            ·
              refine Pre.b1 (Ψ := (fun (r : MI) => Fr KM I0 r)) (fs_F_X12_readTerm _ _ h_I19) (fun I28 h_I28 => ?_)
              exact Pre.so h_I28
            ·
              refine Pre.b2 (Ψ := (fun (r : Int32 × MI) => Fr KM I0 r.2)) (fs_F_X12_number _ _ _ h_I19) (fun v24 I25 h_I25 => ?_)
              refine Pre.bd (Fr.w1 (K := KM) (I0 := I0) h_I25 (fun p => by unfold KM; omega)) (fun I27 h_I27 => ?_)
              exact Pre.so h_I27
          ·
            refine Pre.b1 (Ψ := (fun (r : MI) => Fr KM I0 r)) (fs_F_X12_readAct _ _ h_I20) (fun I30 h_I30 => ?_)
            refine Pre.b1 (Ψ := (fun (r : MI) => Fr KM I0 r)) (fs_F_X12_sign _ _ h_I30) (fun I32 h_I32 => ?_)
            refine Pre.wm (Fr.up (K := KM) (I0 := I0) h_I32 (by unfold KM; omega)) (fun I34 h_I34 => ?_)
            refine Pre.ite ?_ ?_
            ·
              exact Pre.so h_I34
            ·
              exact Pre.so h_I34
      ·
        exact Pre.so h_I7
theorem fs_LF_X12_plan_22 {N : Nat} : ∀ (k : Nat) (y2 : Int32) (I : MI), Fr KM I0 I → Pre (LF_X12_plan_22 N k 24 y2 I L (GRf pb)) (fun (r : MI) => Fr KM I0 r) := by
  intro k
  induction k with
  | zero =>
    intro y2 I hI r hr
    rw [LF_X12_plan_22] at hr
    cases hr
  | succ k ih =>
    intro y2 I hI
    rw [LF_X12_plan_22]
    refine Pre.ite ?_ ?_
    ·
      exact Pre.so hI
    ·
      refine Pre.b2 (Ψ := (fun (r : Bool × MI) => Fr KM I0 r.2)) (fs_F_X12_readItem _ hI) (fun b8 I9 h_I9 => ?_)
      refine Pre.wv ?_
      exact ih _ _ h_I9
theorem fs_LF_X12_plan_53 {N : Nat} : ∀ (k : Nat) (y3 : Int32) (I : MI), Fr KM I0 I → Pre (LF_X12_plan_53 N k 24 y3 I L (GRf pb)) (fun (r : MI) => Fr KM I0 r) := by
  intro k
  induction k with
  | zero =>
    intro y3 I hI r hr
    rw [LF_X12_plan_53] at hr
    cases hr
  | succ k ih =>
    intro y3 I hI
    rw [LF_X12_plan_53]
    refine Pre.ite ?_ ?_
    ·
      exact Pre.so hI
    ·
      refine Pre.bd (Ψ := fun z => some z = rf (GRf pb) 24 56 20) (fun z hz => hz.symm) (fun a17 e_a17 => ?_)
      rw [rf_24_56] at e_a17
      have e_a17 := Option.some.inj e_a17
      subst e_a17
      refine Pre.bd (Ψ := fun z => some z = rf (GRf pb) 24 55 20) (fun z hz => hz.symm) (fun a18 e_a18 => ?_)
      rw [rf_24_55] at e_a18
      have e_a18 := Option.some.inj e_a18
      subst e_a18
      refine Pre.bd (Ψ := fun _ => True) Pre.an (fun v19 _ => ?_)
      refine Pre.bd (Fr.w1 (K := KM) (I0 := I0) hI (fun p => by unfold KM; omega)) (fun I20 h_I20 => ?_)
      refine Pre.wv ?_
      exact ih _ _ h_I20
theorem fs_LF_X12_plan_80 {N : Nat} : ∀ (k : Nat) (y3 : Int32) (I : MI), Fr KM I0 I → Pre (LF_X12_plan_80 N k 24 y3 I L (GRf pb)) (fun (r : MI) => Fr KM I0 r) := by
  intro k
  induction k with
  | zero =>
    intro y3 I hI r hr
    rw [LF_X12_plan_80] at hr
    cases hr
  | succ k ih =>
    intro y3 I hI
    rw [LF_X12_plan_80]
    refine Pre.ite ?_ ?_
    ·
      exact Pre.so hI
    ·
      refine Pre.bd (Ψ := fun z => some z = rf (GRf pb) 24 57 20) (fun z hz => hz.symm) (fun a25 e_a25 => ?_)
      rw [rf_24_57] at e_a25
      have e_a25 := Option.some.inj e_a25
      subst e_a25
      refine Pre.bd (Fr.w1 (K := KM) (I0 := I0) hI (fun p => by unfold KM; omega)) (fun I26 h_I26 => ?_)
      refine Pre.bd (Ψ := fun z => some z = rf (GRf pb) 24 58 20) (fun z hz => hz.symm) (fun a27 e_a27 => ?_)
      rw [rf_24_58] at e_a27
      have e_a27 := Option.some.inj e_a27
      subst e_a27
      refine Pre.bd (Fr.w1 (K := KM) (I0 := I0) h_I26 (fun p => by unfold KM; omega)) (fun I28 h_I28 => ?_)
      refine Pre.bd (Ψ := fun z => some z = rf (GRf pb) 24 59 22) (fun z hz => hz.symm) (fun a29 e_a29 => ?_)
      rw [rf_24_59] at e_a29
      have e_a29 := Option.some.inj e_a29
      subst e_a29
      refine Pre.bd (Fr.w2 (K := KM) (I0 := I0) h_I28 (fun p => by unfold KM; omega)) (fun I30 h_I30 => ?_)
      refine Pre.bd (Ψ := fun z => some z = rf (GRf pb) 24 60 22) (fun z hz => hz.symm) (fun a31 e_a31 => ?_)
      rw [rf_24_60] at e_a31
      have e_a31 := Option.some.inj e_a31
      subst e_a31
      refine Pre.bd (Fr.w2 (K := KM) (I0 := I0) h_I30 (fun p => by unfold KM; omega)) (fun I32 h_I32 => ?_)
      refine Pre.wv ?_
      exact ih _ _ h_I32
theorem fs_F_X12_turnsOn {N : Nat} (x1 : Int32) (I : MI)  (hI : Fr KM I0 I) : Pre (F_X12_turnsOn N 24 x1 I L (GRf pb)) (fun (r : Bool × MI) => Fr KM I0 r.2) := by
  rw [F_X12_turnsOn]
  refine Pre.ite ?_ Pre.no
  refine Pre.b1 (Ψ := fun _ => True) Pre.an (fun b1 _ => ?_)
  refine Pre.ite ?_ ?_
  ·
    exact Pre.so hI
  ·
    refine Pre.b1 (Ψ := fun _ => True) Pre.an (fun b4 _ => ?_)
    refine Pre.ite ?_ ?_
    ·
      exact Pre.so hI
    ·
      refine Pre.b1 (Ψ := fun _ => True) Pre.an (fun v7 _ => ?_)
      refine Pre.ite ?_ ?_
      ·
        refine Pre.b1 (Ψ := (fun (r : MI) => Fr KM I0 r)) (fs_F_X12_set _ _ _ _ hI) (fun I12 h_I12 => ?_)
        exact Pre.so h_I12
      ·
        refine Pre.b1 (Ψ := (fun (r : MI) => Fr KM I0 r)) (fs_F_X12_set _ _ _ _ hI) (fun I10 h_I10 => ?_)
        exact Pre.so h_I10
theorem fs_F_X12_acts {N : Nat} (x1 : Int32) (x2 : Int32) (x3 : Int32) (I : MI)  (hI : Fr KM I0 I) : Pre (F_X12_acts N 24 x1 x2 x3 I L (GRf pb)) (fun (r : Bool × MI) => Fr KM I0 r.2) := by
  rw [F_X12_acts]
  refine Pre.ite ?_ Pre.no
  refine Pre.b2 (Ψ := (fun (r : Int32 × MI) => Fr KM I0 r.2)) ?_ (fun u1 I2 h_I2 => ?_)
  ·
    refine Pre.ite ?_ ?_
    ·
      refine Pre.b2 (Ψ := (fun (r : Bool × MI) => Fr KM I0 r.2)) (fs_F_X12_turnsOn _ _ hI) (fun b7 I8 h_I8 => ?_)
      refine Pre.wv ?_
      exact Pre.so h_I8
    ·
      refine Pre.ite ?_ ?_
      ·
        refine Pre.b1 (Ψ := fun _ => True) Pre.an (fun b12 _ => ?_)
        refine Pre.wv ?_
        refine Pre.b1 (Ψ := (fun (r : MI) => Fr KM I0 r)) ?_ (fun I15 h_I15 => ?_)
        ·
          refine Pre.ite ?_ ?_
          ·
            exact Pre.so hI
          ·
            refine Pre.b1 (Ψ := (fun (r : MI) => Fr KM I0 r)) (fs_F_X12_set _ _ _ _ hI) (fun I19 h_I19 => ?_)
            exact Pre.so h_I19
        ·
          exact Pre.so h_I15
      ·
        refine Pre.ite ?_ ?_
        ·
          refine Pre.wm (Fr.up (K := KM) (I0 := I0) hI (by unfold KM; omega)) (fun I22 h_I22 => ?_)
          exact Pre.so h_I22
        ·
          refine Pre.ite ?_ ?_
          ·
            refine Pre.bd (Ψ := fun z => some z = rf (GRf pb) 24 38 20) (fun z hz => hz.symm) (fun a24 e_a24 => ?_)
            rw [rf_24_38] at e_a24
            have e_a24 := Option.some.inj e_a24
            subst e_a24
            refine Pre.bd (Fr.w1 (K := KM) (I0 := I0) hI (fun p => by unfold KM; omega)) (fun I25 h_I25 => ?_)
            exact Pre.so h_I25
          ·
            refine Pre.ite ?_ ?_
            ·
              refine Pre.b1 (Ψ := fun _ => True) Pre.an (fun s27 _ => ?_)
              refine Pre.b1 (Ψ := (fun (r : MI) => Fr KM I0 r)) ?_ (fun I31 h_I31 => ?_)
              ·
                refine Pre.ite ?_ ?_
                ·
                  exact Pre.so hI
                ·
                  refine Pre.wm (Fr.up (K := KM) (I0 := I0) hI (by unfold KM; omega)) (fun I35 h_I35 => ?_)
                  refine Pre.b1 (Ψ := fun _ => True) Pre.an (fun v36 _ => ?_)
                  refine Pre.b1 (Ψ := (fun (r : MI) => Fr KM I0 r)) (fs_F_X12_make _ _ _ h_I35) (fun I38 h_I38 => ?_)
                  exact Pre.so h_I38
              ·
                exact Pre.so h_I31
            ·
              refine Pre.ite ?_ ?_
              ·
                refine Pre.b1 (Ψ := (fun (r : MI) => Fr KM I0 r)) (fs_F_X12_set _ _ _ _ hI) (fun I41 h_I41 => ?_)
                exact Pre.so h_I41
              ·
                refine Pre.b1 (Ψ := (fun (r : MI) => Fr KM I0 r)) ?_ (fun I43 h_I43 => ?_)
                ·
                  refine Pre.ite ?_ ?_
                  ·
                    exact Pre.so hI
                  ·
                    refine Pre.bd (Ψ := fun z => some z = rf (GRf pb) 24 59 22) (fun z hz => hz.symm) (fun a47 e_a47 => ?_)
                    rw [rf_24_59] at e_a47
                    have e_a47 := Option.some.inj e_a47
                    subst e_a47
                    refine Pre.bd (Fr.w2 (K := KM) (I0 := I0) hI (fun p => by unfold KM; omega)) (fun I48 h_I48 => ?_)
                    exact Pre.so h_I48
                ·
                  exact Pre.so h_I43
  ·
    refine Pre.b1 (Ψ := fun _ => True) Pre.an (fun s49 _ => ?_)
    refine Pre.wm (Fr.up (K := KM) (I0 := I0) h_I2 (by unfold KM; omega)) (fun I53 h_I53 => ?_)
    refine Pre.b1 (Ψ := fun _ => True) Pre.an (fun s54 _ => ?_)
    refine Pre.wm (Fr.up (K := KM) (I0 := I0) h_I53 (by unfold KM; omega)) (fun I58 h_I58 => ?_)
    refine Pre.bd (Ψ := fun _ => True) Pre.an (fun q59 _ => ?_)
    exact Pre.so h_I58
theorem fs_F_X12_isDue (x1 : Int32) (I : MI)  (hI : Fr KM I0 I) : Pre (F_X12_isDue 24 x1 I L (GRf pb)) (fun (r : Bool × MI) => Fr KM I0 r.2) := by
  rw [F_X12_isDue]
  refine Pre.ite ?_ Pre.no
  refine Pre.wv ?_
  refine Pre.bd (Ψ := fun z => some z = rf (GRf pb) 24 56 20) (fun z hz => hz.symm) (fun a2 e_a2 => ?_)
  rw [rf_24_56] at e_a2
  have e_a2 := Option.some.inj e_a2
  subst e_a2
  refine Pre.bd (Ψ := fun _ => True) Pre.an (fun v3 _ => ?_)
  refine Pre.bd (Ψ := fun _ => True) Pre.an (fun v4 _ => ?_)
  refine Pre.ite ?_ ?_
  ·
    refine Pre.ite ?_ ?_
    ·
      exact Pre.so hI
    ·
      exact Pre.so hI
  ·
    refine Pre.bd (Ψ := fun _ => True) Pre.an (fun v6 _ => ?_)
    refine Pre.ite ?_ ?_
    ·
      refine Pre.ite ?_ ?_
      ·
        exact Pre.so hI
      ·
        refine Pre.ite Pre.no ?_
        refine Pre.ite ?_ ?_
        ·
          exact Pre.so hI
        ·
          exact Pre.so hI
    ·
      refine Pre.b1 (Ψ := fun _ => True) Pre.an (fun v8 _ => ?_)
      refine Pre.bd (Ψ := fun _ => True) Pre.an (fun v10 _ => ?_)
      refine Pre.b1 (Ψ := fun _ => True) Pre.an (fun s11 _ => ?_)
      refine Pre.b1 (Ψ := fun _ => True) Pre.an (fun s23 _ => ?_)
      refine Pre.bd (Ψ := fun z => some z = rf (GRf pb) 24 60 22) (fun z hz => hz.symm) (fun a33 e_a33 => ?_)
      rw [rf_24_60] at e_a33
      have e_a33 := Option.some.inj e_a33
      subst e_a33
      refine Pre.bd (Fr.w2 (K := KM) (I0 := I0) hI (fun p => by unfold KM; omega)) (fun I34 h_I34 => ?_)
      refine Pre.bd (Ψ := fun _ => True) Pre.an (fun q35 _ => ?_)
      exact Pre.so h_I34
theorem fs_LF_X12_doPlan_2 {N : Nat} : ∀ (k : Nat) (y1 : Int32) (I : MI), Fr KM I0 I → Pre (LF_X12_doPlan_2 N k 24 y1 I L (GRf pb)) (fun (r : MI) => Fr KM I0 r) := by
  intro k
  induction k with
  | zero =>
    intro y1 I hI r hr
    rw [LF_X12_doPlan_2] at hr
    cases hr
  | succ k ih =>
    intro y1 I hI
    rw [LF_X12_doPlan_2]
    refine Pre.ite ?_ ?_
    ·
      exact Pre.so hI
    ·
      refine Pre.bd (Ψ := fun z => some z = rf (GRf pb) 24 59 22) (fun z hz => hz.symm) (fun a2 e_a2 => ?_)
      rw [rf_24_59] at e_a2
      have e_a2 := Option.some.inj e_a2
      subst e_a2
      refine Pre.bd (Ψ := fun _ => True) Pre.an (fun v3 _ => ?_)
      refine Pre.b1 (Ψ := (fun (r : MI) => Fr KM I0 r)) ?_ (fun I4 h_I4 => ?_)
      ·
        refine Pre.ite ?_ ?_
        ·
          refine Pre.b2 (Ψ := (fun (r : Bool × MI) => Fr KM I0 r.2)) (fs_F_X12_isDue _ _ hI) (fun b8 I9 h_I9 => ?_)
          refine Pre.b1 (Ψ := (fun (r : MI) => Fr KM I0 r)) ?_ (fun I11 h_I11 => ?_)
          ·
            refine Pre.ite ?_ ?_
            ·
              exact Pre.so h_I9
            ·
              refine Pre.bd (Ψ := fun z => some z = rf (GRf pb) 24 57 20) (fun z hz => hz.symm) (fun a15 e_a15 => ?_)
              rw [rf_24_57] at e_a15
              have e_a15 := Option.some.inj e_a15
              subst e_a15
              refine Pre.bd (Ψ := fun _ => True) Pre.an (fun v16 _ => ?_)
              refine Pre.bd (Fr.w1 (K := KM) (I0 := I0) h_I9 (fun p => by unfold KM; omega)) (fun I17 h_I17 => ?_)
              refine Pre.bd (Ψ := fun z => some z = rf (GRf pb) 24 58 20) (fun z hz => hz.symm) (fun a18 e_a18 => ?_)
              rw [rf_24_58] at e_a18
              have e_a18 := Option.some.inj e_a18
              subst e_a18
              refine Pre.bd (Ψ := fun _ => True) Pre.an (fun v19 _ => ?_)
              refine Pre.bd (Ψ := fun z => some z = rf (GRf pb) 24 56 20) (fun z hz => hz.symm) (fun a20 e_a20 => ?_)
              rw [rf_24_56] at e_a20
              have e_a20 := Option.some.inj e_a20
              subst e_a20
              refine Pre.bd (Ψ := fun _ => True) Pre.an (fun v21 _ => ?_)
              refine Pre.bd (Ψ := fun _ => True) Pre.an (fun v22 _ => ?_)
              refine Pre.bd (Ψ := fun _ => True) Pre.an (fun v23 _ => ?_)
              refine Pre.b2 (Ψ := (fun (r : Bool × MI) => Fr KM I0 r.2)) (fs_F_X12_acts _ _ _ _ h_I17) (fun b24 I25 h_I25 => ?_)
              refine Pre.b1 (Ψ := fun _ => True) Pre.an (fun s27 _ => ?_)
              refine Pre.bd (Fr.w1 (K := KM) (I0 := I0) h_I25 (fun p => by unfold KM; omega)) (fun I31 h_I31 => ?_)
              exact Pre.so h_I31
          ·
            exact Pre.so h_I11
        ·
          exact Pre.so hI
      ·
        refine Pre.wv ?_
        exact ih _ _ h_I4
theorem fs_F_X12_doPlan {N : Nat}  (I : MI)  (hI : Fr KM I0 I) : Pre (F_X12_doPlan N 24  I L (GRf pb)) (fun (r : MI) => Fr KM I0 r) := by
  rw [F_X12_doPlan]
  refine Pre.ite ?_ Pre.no
  refine Pre.b1 (Ψ := (fun (r : MI) => Fr KM I0 r)) (fs_LF_X12_doPlan_2 _ _ _ hI) (fun z33 h_z33 => ?_)
  exact Pre.so h_z33
theorem fs_F_X12_shine  (I : MI)  (hI : Fr KM I0 I) : Pre (F_X12_shine 24  I L (GRf pb)) (fun (r : MI) => Fr KM I0 r) := by
  rw [F_X12_shine]
  refine Pre.ite ?_ Pre.no
  refine Pre.wv ?_
  refine Pre.b1 (Ψ := fun _ => True) Pre.an (fun s2 _ => ?_)
  refine Pre.wm (Fr.up (K := KM) (I0 := I0) hI (by unfold KM; omega)) (fun I14 h_I14 => ?_)
  exact Pre.so h_I14
theorem fs_F_X12_keep (x1 : Int32) (x2 : Int32) (I : MI)  (hI : Fr KM I0 I) : Pre (F_X12_keep 24 x1 x2 I L (GRf pb)) (fun (r : MI) => Fr KM I0 r) := by
  rw [F_X12_keep]
  refine Pre.ite ?_ Pre.no
  refine Pre.bd (Ψ := fun z => some z = rf (GRf pb) 24 52 20) (fun z hz => hz.symm) (fun a1 e_a1 => ?_)
  rw [rf_24_52] at e_a1
  have e_a1 := Option.some.inj e_a1
  subst e_a1
  refine Pre.b1 (Ψ := fun _ => True) Pre.an (fun v2 _ => ?_)
  refine Pre.bd (Fr.w1 (K := KM) (I0 := I0) hI (fun p => by unfold KM; omega)) (fun I4 h_I4 => ?_)
  refine Pre.b1 (Ψ := (fun (r : MI) => Fr KM I0 r)) (fs_F_X12_grow _ _ _ _ h_I4) (fun I5 h_I5 => ?_)
  exact Pre.so h_I5
theorem fs_LF_X12_readSensor_206 {N : Nat} : ∀ (k : Nat) (y1 : Int32) (y3 : Int32) (y4 : Int32) (y5 : Int32) (y6 : Int32) (I : MI), Fr KM I0 I → Pre (LF_X12_readSensor_206 N k 24 y1 y3 y4 y5 y6 I L (GRf pb)) (fun (r : MI) => Fr KM I0 r) := by
  intro k
  induction k with
  | zero =>
    intro y1 y3 y4 y5 y6 I hI r hr
    rw [LF_X12_readSensor_206] at hr
    cases hr
  | succ k ih =>
    intro y1 y3 y4 y5 y6 I hI
    rw [LF_X12_readSensor_206]
    refine Pre.ite ?_ ?_
    ·
      exact Pre.so hI
    ·
      refine Pre.b1 (Ψ := fun _ => True) Pre.an (fun v20 _ => ?_)
      refine Pre.b1 (Ψ := (fun (r : MI) => Fr KM I0 r)) (fs_F_X12_keep _ _ _ hI) (fun I22 h_I22 => ?_)
      refine Pre.wv ?_
      exact ih _ _ _ _ _ _ h_I22
theorem fs_F_X12_readSensor {N : Nat} (x1 : Int32) (I : MI)  (hI : Fr KM I0 I) : Pre (F_X12_readSensor N 24 x1 I L (GRf pb)) (fun (r : MI) => Fr KM I0 r) := by
  rw [F_X12_readSensor]
  refine Pre.ite ?_ Pre.no
  refine Pre.b1 (Ψ := fun _ => True) Pre.an (fun v1 _ => ?_)
  refine Pre.b1 (Ψ := fun _ => True) Pre.an (fun b3 _ => ?_)
  refine Pre.ite ?_ ?_
  ·
    refine Pre.ite ?_ ?_
    ·
      refine Pre.bd (Ψ := fun z => some z = rf (GRf pb) 24 36 20) (fun z hz => hz.symm) (fun a37 e_a37 => ?_)
      rw [rf_24_36] at e_a37
      have e_a37 := Option.some.inj e_a37
      subst e_a37
      refine Pre.bd (Ψ := fun _ => True) Pre.an (fun v38 _ => ?_)
      refine Pre.b1 (Ψ := fun _ => True) Pre.an (fun v39 _ => ?_)
      refine Pre.b1 (Ψ := fun _ => True) Pre.an (fun s41 _ => ?_)
      refine Pre.b1 (Ψ := (fun (r : MI) => Fr KM I0 r)) (fs_F_X12_set _ _ _ _ hI) (fun I55 h_I55 => ?_)
      exact Pre.so h_I55
    ·
      refine Pre.ite ?_ ?_
      ·
        refine Pre.b1 (Ψ := fun _ => True) Pre.an (fun v29 _ => ?_)
        refine Pre.b1 (Ψ := fun _ => True) Pre.an (fun v31 _ => ?_)
        refine Pre.b1 (Ψ := fun _ => True) Pre.an (fun v33 _ => ?_)
        refine Pre.b1 (Ψ := (fun (r : MI) => Fr KM I0 r)) (fs_F_X12_set _ _ _ _ hI) (fun I35 h_I35 => ?_)
        exact Pre.so h_I35
      ·
        refine Pre.b1 (Ψ := fun _ => True) Pre.an (fun v8 _ => ?_)
        refine Pre.b1 (Ψ := fun _ => True) Pre.an (fun v10 _ => ?_)
        refine Pre.b1 (Ψ := fun _ => True) Pre.an (fun v12 _ => ?_)
        refine Pre.b1 (Ψ := (fun (r : MI) => Fr KM I0 r)) (fs_F_X12_set _ _ _ _ hI) (fun I14 h_I14 => ?_)
        refine Pre.b1 (Ψ := fun _ => True) Pre.an (fun b16 _ => ?_)
        refine Pre.ite ?_ ?_
        ·
          exact Pre.so h_I14
        ·
          refine Pre.b1 (Ψ := (fun (r : MI) => Fr KM I0 r)) (fs_LF_X12_readSensor_206 _ _ _ _ _ _ _ h_I14) (fun z25 h_z25 => ?_)
          refine Pre.b1 (Ψ := (fun (r : MI) => Fr KM I0 r)) (fs_F_X12_grow _ _ _ _ h_z25) (fun I27 h_I27 => ?_)
          exact Pre.so h_I27
  ·
    refine Pre.bd (Ψ := fun z => some z = rf (GRf pb) 24 37 20) (fun z hz => hz.symm) (fun a57 e_a57 => ?_)
    rw [rf_24_37] at e_a57
    have e_a57 := Option.some.inj e_a57
    subst e_a57
    refine Pre.b1 (Ψ := fun _ => True) Pre.an (fun v58 _ => ?_)
    refine Pre.bd (Ψ := fun _ => True) Pre.an (fun v60 _ => ?_)
    refine Pre.b1 (Ψ := fun _ => True) Pre.an (fun v61 _ => ?_)
    refine Pre.b1 (Ψ := (fun (r : MI) => Fr KM I0 r)) (fs_F_X12_set _ _ _ _ hI) (fun I63 h_I63 => ?_)
    exact Pre.so h_I63
theorem fs_LF_X12_readSensors_2 {N : Nat} : ∀ (k : Nat) (y1 : Int32) (I : MI), Fr KM I0 I → Pre (LF_X12_readSensors_2 N k 24 y1 I L (GRf pb)) (fun (r : MI) => Fr KM I0 r) := by
  intro k
  induction k with
  | zero =>
    intro y1 I hI r hr
    rw [LF_X12_readSensors_2] at hr
    cases hr
  | succ k ih =>
    intro y1 I hI
    rw [LF_X12_readSensors_2]
    refine Pre.ite ?_ ?_
    ·
      exact Pre.so hI
    ·
      refine Pre.b1 (Ψ := fun _ => True) Pre.an (fun b2 _ => ?_)
      refine Pre.b1 (Ψ := (fun (r : MI) => Fr KM I0 r)) ?_ (fun I4 h_I4 => ?_)
      ·
        refine Pre.ite ?_ ?_
        ·
          exact Pre.so hI
        ·
          refine Pre.b1 (Ψ := fun _ => True) Pre.an (fun b8 _ => ?_)
          refine Pre.b1 (Ψ := (fun (r : MI) => Fr KM I0 r)) ?_ (fun I10 h_I10 => ?_)
          ·
            refine Pre.ite ?_ ?_
            ·
              exact Pre.so hI
            ·
              refine Pre.b1 (Ψ := fun _ => True) Pre.an (fun v14 _ => ?_)
              refine Pre.ite Pre.no ?_
              refine Pre.b1 (Ψ := (fun (r : MI) => Fr KM I0 r)) ?_ (fun I17 h_I17 => ?_)
              ·
                refine Pre.ite ?_ ?_
                ·
                  refine Pre.b1 (Ψ := (fun (r : MI) => Fr KM I0 r)) (fs_F_X12_readSensor _ _ hI) (fun I21 h_I21 => ?_)
                  exact Pre.so h_I21
                ·
                  exact Pre.so hI
              ·
                exact Pre.so h_I17
          ·
            exact Pre.so h_I10
      ·
        refine Pre.wv ?_
        exact ih _ _ h_I4
theorem fs_F_X12_readSensors {N : Nat}  (I : MI)  (hI : Fr KM I0 I) : Pre (F_X12_readSensors N 24  I L (GRf pb)) (fun (r : MI) => Fr KM I0 r) := by
  rw [F_X12_readSensors]
  refine Pre.ite ?_ Pre.no
  refine Pre.b1 (Ψ := (fun (r : MI) => Fr KM I0 r)) (fs_LF_X12_readSensors_2 _ _ _ hI) (fun z24 h_z24 => ?_)
  exact Pre.so h_z24
theorem fs_F_X12_slow {N : Nat} (x1 : Int32) (x2 : Int32) (I : MI)  (hI : Fr KM I0 I) : Pre (F_X12_slow N 24 x1 x2 I L (GRf pb)) (fun (r : MI) => Fr KM I0 r) := by
  rw [F_X12_slow]
  refine Pre.ite ?_ Pre.no
  refine Pre.b1 (Ψ := fun _ => True) Pre.an (fun v1 _ => ?_)
  refine Pre.b1 (Ψ := fun _ => True) Pre.an (fun v3 _ => ?_)
  refine Pre.b1 (Ψ := fun _ => True) Pre.an (fun v5 _ => ?_)
  refine Pre.ite ?_ ?_
  ·
    refine Pre.b1 (Ψ := fun _ => True) Pre.an (fun v8 _ => ?_)
    refine Pre.ite ?_ ?_
    ·
      exact Pre.so hI
    ·
      refine Pre.b1 (Ψ := fun _ => True) Pre.an (fun v11 _ => ?_)
      refine Pre.b1 (Ψ := fun _ => True) Pre.an (fun v13 _ => ?_)
      refine Pre.b1 (Ψ := fun _ => True) Pre.an (fun v15 _ => ?_)
      refine Pre.b1 (Ψ := fun _ => True) Pre.an (fun s17 _ => ?_)
      refine Pre.b1 (Ψ := (fun (r : MI) => Fr KM I0 r)) (fs_F_X12_set _ _ _ _ hI) (fun I21 h_I21 => ?_)
      refine Pre.b1 (Ψ := fun _ => True) Pre.an (fun v23 _ => ?_)
      refine Pre.b1 (Ψ := fun _ => True) Pre.an (fun v25 _ => ?_)
      refine Pre.b1 (Ψ := (fun (r : MI) => Fr KM I0 r)) (fs_F_X12_grow _ _ _ _ h_I21) (fun I27 h_I27 => ?_)
      refine Pre.b1 (Ψ := (fun (r : MI) => Fr KM I0 r)) (fs_F_X12_grow _ _ _ _ h_I27) (fun I29 h_I29 => ?_)
      exact Pre.so h_I29
  ·
    exact Pre.so hI
theorem fs_LF_X12_steer_8 {N : Nat} : ∀ (k : Nat) (y1 : Int32) (y2 : Int32) (y3 : Int32) (I : MI), Fr KM I0 I → Pre (LF_X12_steer_8 N k 24 y1 y2 y3 I L (GRf pb)) (fun (r : Int32 × MI) => Fr KM I0 r.2) := by
  intro k
  induction k with
  | zero =>
    intro y1 y2 y3 I hI r hr
    rw [LF_X12_steer_8] at hr
    cases hr
  | succ k ih =>
    intro y1 y2 y3 I hI
    rw [LF_X12_steer_8]
    refine Pre.ite ?_ ?_
    ·
      exact Pre.so hI
    ·
      refine Pre.b1 (Ψ := fun _ => True) Pre.an (fun b4 _ => ?_)
      refine Pre.b2 (Ψ := (fun (r : Int32 × MI) => Fr KM I0 r.2)) ?_ (fun u6 I7 h_I7 => ?_)
      ·
        refine Pre.ite ?_ ?_
        ·
          exact Pre.so hI
        ·
          refine Pre.b1 (Ψ := fun _ => True) Pre.an (fun v11 _ => ?_)
          refine Pre.b1 (Ψ := fun _ => True) Pre.an (fun v13 _ => ?_)
          refine Pre.b1 (Ψ := fun _ => True) Pre.an (fun v15 _ => ?_)
          refine Pre.b1 (Ψ := fun _ => True) Pre.an (fun v17 _ => ?_)
          refine Pre.b1 (Ψ := fun _ => True) Pre.an (fun v19 _ => ?_)
          refine Pre.b1 (Ψ := fun _ => True) Pre.an (fun v21 _ => ?_)
          refine Pre.wv ?_
          refine Pre.b1 (Ψ := (fun (r : MI) => Fr KM I0 r)) (fs_F_X12_grow _ _ _ _ hI) (fun I24 h_I24 => ?_)
          refine Pre.bd (Ψ := fun z => some z = rf (GRf pb) 24 37 20) (fun z hz => hz.symm) (fun a26 e_a26 => ?_)
          rw [rf_24_37] at e_a26
          have e_a26 := Option.some.inj e_a26
          subst e_a26
          refine Pre.bd (Ψ := fun _ => True) Pre.an (fun v27 _ => ?_)
          refine Pre.bd (Fr.w1 (K := KM) (I0 := I0) h_I24 (fun p => by unfold KM; omega)) (fun I28 h_I28 => ?_)
          refine Pre.wv ?_
          exact Pre.so h_I28
      ·
        refine Pre.wv ?_
        exact ih _ _ _ _ h_I7
theorem fs_LF_X12_steer_116 {N : Nat} : ∀ (k : Nat) (y1 : Int32) (y2 : Int32) (y3 : Int32) (I : MI), Fr KM I0 I → Pre (LF_X12_steer_116 N k 24 y1 y2 y3 I L (GRf pb)) (fun (r : MI) => Fr KM I0 r) := by
  intro k
  induction k with
  | zero =>
    intro y1 y2 y3 I hI r hr
    rw [LF_X12_steer_116] at hr
    cases hr
  | succ k ih =>
    intro y1 y2 y3 I hI
    rw [LF_X12_steer_116]
    refine Pre.ite ?_ ?_
    ·
      exact Pre.so hI
    ·
      refine Pre.ite ?_ ?_
      ·
        refine Pre.b1 (Ψ := fun _ => True) Pre.an (fun b35 _ => ?_)
        refine Pre.b2 (Ψ := (fun (r : Int32 × MI) => Fr KM I0 r.2)) ?_ (fun u37 I38 h_I38 => ?_)
        ·
          refine Pre.ite ?_ ?_
          ·
            exact Pre.so hI
          ·
            refine Pre.b1 (Ψ := fun _ => True) Pre.an (fun v42 _ => ?_)
            refine Pre.b1 (Ψ := fun _ => True) Pre.an (fun s44 _ => ?_)
            refine Pre.bd (Ψ := fun z => some z = rf (GRf pb) 24 37 20) (fun z hz => hz.symm) (fun a50 e_a50 => ?_)
            rw [rf_24_37] at e_a50
            have e_a50 := Option.some.inj e_a50
            subst e_a50
            refine Pre.bd (Ψ := fun _ => True) Pre.an (fun v51 _ => ?_)
            refine Pre.bd (Fr.w1 (K := KM) (I0 := I0) hI (fun p => by unfold KM; omega)) (fun I52 h_I52 => ?_)
            refine Pre.wv ?_
            exact Pre.so h_I52
        ·
          refine Pre.wv ?_
          exact ih _ _ _ _ h_I38
      ·
        exact Pre.so hI
theorem fs_LF_X12_steer_194 {N : Nat} : ∀ (k : Nat) (y1 : Int32) (y3 : Int32) (I : MI), Fr KM I0 I → Pre (LF_X12_steer_194 N k 24 y1 y3 I L (GRf pb)) (fun (r : MI) => Fr KM I0 r) := by
  intro k
  induction k with
  | zero =>
    intro y1 y3 I hI r hr
    rw [LF_X12_steer_194] at hr
    cases hr
  | succ k ih =>
    intro y1 y3 I hI
    rw [LF_X12_steer_194]
    refine Pre.ite ?_ ?_
    ·
      exact Pre.so hI
    ·
      refine Pre.b1 (Ψ := fun _ => True) Pre.an (fun b58 _ => ?_)
      refine Pre.b1 (Ψ := (fun (r : MI) => Fr KM I0 r)) ?_ (fun I60 h_I60 => ?_)
      ·
        refine Pre.ite ?_ ?_
        ·
          exact Pre.so hI
        ·
          refine Pre.b1 (Ψ := (fun (r : MI) => Fr KM I0 r)) (fs_F_X12_slow _ _ _ hI) (fun I64 h_I64 => ?_)
          exact Pre.so h_I64
      ·
        refine Pre.wv ?_
        exact ih _ _ _ h_I60
theorem fs_F_X12_steer {N : Nat} (x1 : Int32) (I : MI)  (hI : Fr KM I0 I) : Pre (F_X12_steer N 24 x1 I L (GRf pb)) (fun (r : MI) => Fr KM I0 r) := by
  rw [F_X12_steer]
  refine Pre.ite ?_ Pre.no
  refine Pre.b1 (Ψ := fun _ => True) Pre.an (fun v1 _ => ?_)
  refine Pre.b1 (Ψ := (fun (r : Int32 × MI) => Fr KM I0 r.2)) (fs_LF_X12_steer_8 _ _ _ _ _ hI) (fun z31 h_z31 => ?_)
  refine Pre.b1 (Ψ := (fun (r : MI) => Fr KM I0 r)) (fs_LF_X12_steer_116 _ _ _ _ _ h_z31) (fun z55 h_z55 => ?_)
  refine Pre.b1 (Ψ := (fun (r : MI) => Fr KM I0 r)) (fs_LF_X12_steer_194 _ _ _ _ h_z55) (fun z67 h_z67 => ?_)
  exact Pre.so h_z67
theorem fs_LF_X12_control_10 {N : Nat} : ∀ (k : Nat) (y1 : Int32) (I : MI), Fr KM I0 I → Pre (LF_X12_control_10 N k 24 y1 I L (GRf pb)) (fun (r : MI) => Fr KM I0 r) := by
  intro k
  induction k with
  | zero =>
    intro y1 I hI r hr
    rw [LF_X12_control_10] at hr
    cases hr
  | succ k ih =>
    intro y1 I hI
    rw [LF_X12_control_10]
    refine Pre.ite ?_ ?_
    ·
      exact Pre.so hI
    ·
      refine Pre.b1 (Ψ := fun _ => True) Pre.an (fun b6 _ => ?_)
      refine Pre.b1 (Ψ := (fun (r : MI) => Fr KM I0 r)) ?_ (fun I8 h_I8 => ?_)
      ·
        refine Pre.ite ?_ ?_
        ·
          exact Pre.so hI
        ·
          refine Pre.b1 (Ψ := fun _ => True) Pre.an (fun v12 _ => ?_)
          refine Pre.b1 (Ψ := (fun (r : MI) => Fr KM I0 r)) ?_ (fun I14 h_I14 => ?_)
          ·
            refine Pre.ite ?_ ?_
            ·
              refine Pre.b1 (Ψ := fun _ => True) Pre.an (fun b18 _ => ?_)
              refine Pre.b1 (Ψ := (fun (r : MI) => Fr KM I0 r)) ?_ (fun I20 h_I20 => ?_)
              ·
                refine Pre.ite ?_ ?_
                ·
                  refine Pre.b1 (Ψ := (fun (r : MI) => Fr KM I0 r)) (fs_F_X12_set _ _ _ _ hI) (fun I24 h_I24 => ?_)
                  exact Pre.so h_I24
                ·
                  exact Pre.so hI
              ·
                exact Pre.so h_I20
            ·
              exact Pre.so hI
          ·
            exact Pre.so h_I14
      ·
        refine Pre.wv ?_
        exact ih _ _ h_I8
theorem fs_LF_X12_control_88 {N : Nat} : ∀ (k : Nat) (y1 : Int32) (I : MI), Fr KM I0 I → Pre (LF_X12_control_88 N k 24 y1 I L (GRf pb)) (fun (r : MI) => Fr KM I0 r) := by
  intro k
  induction k with
  | zero =>
    intro y1 I hI r hr
    rw [LF_X12_control_88] at hr
    cases hr
  | succ k ih =>
    intro y1 I hI
    rw [LF_X12_control_88]
    refine Pre.ite ?_ ?_
    ·
      exact Pre.so hI
    ·
      refine Pre.b1 (Ψ := (fun (r : MI) => Fr KM I0 r)) (fs_F_X12_steer _ _ hI) (fun I32 h_I32 => ?_)
      refine Pre.wv ?_
      exact ih _ _ h_I32
theorem fs_F_X12_control {N : Nat}  (I : MI)  (hI : Fr KM I0 I) : Pre (F_X12_control N 24  I L (GRf pb)) (fun (r : MI) => Fr KM I0 r) := by
  rw [F_X12_control]
  refine Pre.ite ?_ Pre.no
  refine Pre.b1 (Ψ := (fun (r : MI) => Fr KM I0 r)) ?_ (fun I1 h_I1 => ?_)
  ·
    refine Pre.ite ?_ ?_
    ·
      refine Pre.b1 (Ψ := (fun (r : MI) => Fr KM I0 r)) (fs_LF_X12_control_10 _ _ _ hI) (fun z27 h_z27 => ?_)
      exact Pre.so h_z27
    ·
      exact Pre.so hI
  ·
    refine Pre.ite ?_ ?_
    ·
      refine Pre.ite ?_ ?_
      ·
        refine Pre.b1 (Ψ := (fun (r : MI) => Fr KM I0 r)) (fs_LF_X12_control_88 _ _ _ h_I1) (fun z35 h_z35 => ?_)
        exact Pre.so h_z35
      ·
        exact Pre.so h_I1
    ·
      refine Pre.ite ?_ ?_
      ·
        refine Pre.ite ?_ ?_
        ·
          refine Pre.b1 (Ψ := (fun (r : MI) => Fr KM I0 r)) (fs_LF_X12_control_88 _ _ _ h_I1) (fun z39 h_z39 => ?_)
          exact Pre.so h_z39
        ·
          exact Pre.so h_I1
      ·
        exact Pre.so h_I1
theorem fs_LF_X12_turn_26 {N : Nat} : ∀ (k : Nat) (y1 : Int32) (I : MI), Fr KM I0 I → Pre (LF_X12_turn_26 N k 24 y1 I L (GRf pb)) (fun (r : MI) => Fr KM I0 r) := by
  intro k
  induction k with
  | zero =>
    intro y1 I hI r hr
    rw [LF_X12_turn_26] at hr
    cases hr
  | succ k ih =>
    intro y1 I hI
    rw [LF_X12_turn_26]
    refine Pre.ite ?_ ?_
    ·
      exact Pre.so hI
    ·
      refine Pre.bd (Ψ := fun z => some z = rf (GRf pb) 24 37 20) (fun z hz => hz.symm) (fun a9 e_a9 => ?_)
      rw [rf_24_37] at e_a9
      have e_a9 := Option.some.inj e_a9
      subst e_a9
      refine Pre.bd (Ψ := fun _ => True) Pre.an (fun v10 _ => ?_)
      refine Pre.b1 (Ψ := fun _ => True) Pre.an (fun v11 _ => ?_)
      refine Pre.bd (Fr.w1 (K := KM) (I0 := I0) hI (fun p => by unfold KM; omega)) (fun I13 h_I13 => ?_)
      refine Pre.bd (Ψ := fun z => some z = rf (GRf pb) 24 36 20) (fun z hz => hz.symm) (fun a14 e_a14 => ?_)
      rw [rf_24_36] at e_a14
      have e_a14 := Option.some.inj e_a14
      subst e_a14
      refine Pre.bd (Ψ := fun _ => True) Pre.an (fun v15 _ => ?_)
      refine Pre.bd (Ψ := fun _ => True) Pre.an (fun v16 _ => ?_)
      refine Pre.b1 (Ψ := fun _ => True) Pre.an (fun v17 _ => ?_)
      refine Pre.bd (Fr.w1 (K := KM) (I0 := I0) h_I13 (fun p => by unfold KM; omega)) (fun I19 h_I19 => ?_)
      refine Pre.wv ?_
      exact ih _ _ h_I19
theorem fs_F_X12_turn {N : Nat}  (I : MI)  (hI : Fr KM I0 I) : Pre (F_X12_turn N 24  I L (GRf pb)) (fun (r : MI) => Fr KM I0 r) := by
  rw [F_X12_turn]
  refine Pre.ite ?_ Pre.no
  refine Pre.bd (Ψ := fun z => some z = rf (GRf pb) 24 37 20) (fun z hz => hz.symm) (fun a1 e_a1 => ?_)
  rw [rf_24_37] at e_a1
  have e_a1 := Option.some.inj e_a1
  subst e_a1
  refine Pre.bd (Ψ := fun _ => True) Pre.an (fun v2 _ => ?_)
  refine Pre.b1 (Ψ := fun _ => True) Pre.an (fun s3 _ => ?_)
  refine Pre.bd (Fr.w1 (K := KM) (I0 := I0) hI (fun p => by unfold KM; omega)) (fun I7 h_I7 => ?_)
  refine Pre.b1 (Ψ := (fun (r : MI) => Fr KM I0 r)) (fs_LF_X12_turn_26 _ _ _ h_I7) (fun z21 h_z21 => ?_)
  exact Pre.so h_z21
theorem fs_F_X12_given {N : Nat} (x1 : Int32) (I : MI)  (hI : Fr KM I0 I) : Pre (F_X12_given N 24 x1 I L (GRf pb)) (fun (r : Int32 × MI) => Fr KM I0 r.2) := by
  rw [F_X12_given]
  refine Pre.ite ?_ Pre.no
  refine Pre.b1 (Ψ := fun _ => True) Pre.an (fun b1 _ => ?_)
  refine Pre.ite ?_ ?_
  ·
    refine Pre.b1 (Ψ := fun _ => True) Pre.an (fun v4 _ => ?_)
    refine Pre.wv ?_
    refine Pre.b1 (Ψ := fun _ => True) Pre.an (fun b7 _ => ?_)
    refine Pre.b2 (Ψ := (fun (r : Int32 × MI) => Fr KM I0 r.2)) ?_ (fun u9 I10 h_I10 => ?_)
    ·
      refine Pre.ite ?_ ?_
      ·
        exact Pre.so hI
      ·
        refine Pre.b1 (Ψ := fun _ => True) Pre.an (fun v14 _ => ?_)
        refine Pre.b1 (Ψ := fun _ => True) Pre.an (fun v16 _ => ?_)
        refine Pre.b1 (Ψ := fun _ => True) Pre.an (fun v18 _ => ?_)
        refine Pre.bd (Ψ := fun z => some z = rf (GRf pb) 24 36 20) (fun z hz => hz.symm) (fun a20 e_a20 => ?_)
        rw [rf_24_36] at e_a20
        have e_a20 := Option.some.inj e_a20
        subst e_a20
        refine Pre.bd (Ψ := fun _ => True) Pre.an (fun v21 _ => ?_)
        refine Pre.b1 (Ψ := fun _ => True) Pre.an (fun v22 _ => ?_)
        refine Pre.b1 (Ψ := fun _ => True) Pre.an (fun v24 _ => ?_)
        refine Pre.b1 (Ψ := fun _ => True) Pre.an (fun v26 _ => ?_)
        refine Pre.b1 (Ψ := (fun (r : MI) => Fr KM I0 r)) (fs_F_X12_set _ _ _ _ hI) (fun I28 h_I28 => ?_)
        refine Pre.b1 (Ψ := fun _ => True) Pre.an (fun v30 _ => ?_)
        exact Pre.so h_I28
    ·
      refine Pre.bd (Ψ := fun z => some z = rf (GRf pb) 24 36 20) (fun z hz => hz.symm) (fun a32 e_a32 => ?_)
      rw [rf_24_36] at e_a32
      have e_a32 := Option.some.inj e_a32
      subst e_a32
      refine Pre.bd (Ψ := fun _ => True) Pre.an (fun v33 _ => ?_)
      refine Pre.b1 (Ψ := fun _ => True) Pre.an (fun v34 _ => ?_)
      refine Pre.b1 (Ψ := fun _ => True) Pre.an (fun v36 _ => ?_)
      refine Pre.wv ?_
      refine Pre.b1 (Ψ := fun _ => True) Pre.an (fun v39 _ => ?_)
      refine Pre.bd (Ψ := fun z => some z = rf (GRf pb) 24 61 20) (fun z hz => hz.symm) (fun a41 e_a41 => ?_)
      rw [rf_24_61] at e_a41
      have e_a41 := Option.some.inj e_a41
      subst e_a41
      refine Pre.bd (Ψ := fun _ => True) Pre.an (fun v42 _ => ?_)
      exact Pre.so h_I10
  ·
    refine Pre.b1 (Ψ := fun _ => True) Pre.an (fun v43 _ => ?_)
    refine Pre.b1 (Ψ := fun _ => True) Pre.an (fun b45 _ => ?_)
    refine Pre.ite ?_ ?_
    ·
      exact Pre.so hI
    ·
      refine Pre.b1 (Ψ := fun _ => True) Pre.an (fun v48 _ => ?_)
      refine Pre.ite ?_ ?_
      ·
        refine Pre.b1 (Ψ := fun _ => True) Pre.an (fun s51 _ => ?_)
        refine Pre.b1 (Ψ := (fun (r : MI) => Fr KM I0 r)) (fs_F_X12_grow _ _ _ _ hI) (fun I55 h_I55 => ?_)
        refine Pre.b1 (Ψ := fun _ => True) Pre.an (fun v57 _ => ?_)
        exact Pre.so h_I55
      ·
        exact Pre.so hI
theorem fs_F_X12_brownout {N : Nat}  (I : MI)  (hI : Fr KM I0 I) : Pre (F_X12_brownout N 24  I L (GRf pb)) (fun (r : MI) => Fr KM I0 r) := by
  rw [F_X12_brownout]
  refine Pre.ite ?_ Pre.no
  refine Pre.wm (Fr.up (K := KM) (I0 := I0) hI (by unfold KM; omega)) (fun I1 h_I1 => ?_)
  refine Pre.wm (Fr.up (K := KM) (I0 := I0) h_I1 (by unfold KM; omega)) (fun I2 h_I2 => ?_)
  refine Pre.b1 (Ψ := fun _ => True) Pre.an (fun z23 _ => ?_)
  refine Pre.ite ?_ ?_
  ·
    exact Pre.so h_I2
  ·
    refine Pre.b1 (Ψ := (fun (r : MI) => Fr KM I0 r)) (fs_F_X12_set _ _ _ _ h_I2) (fun I26 h_I26 => ?_)
    exact Pre.so h_I26
theorem fs_LF_X12_power_12 {N : Nat} : ∀ (k : Nat) (y1 : Int32) (I : MI), Fr KM I0 I → Pre (LF_X12_power_12 N k 24 y1 I L (GRf pb)) (fun (r : MI) => Fr KM I0 r) := by
  intro k
  induction k with
  | zero =>
    intro y1 I hI r hr
    rw [LF_X12_power_12] at hr
    cases hr
  | succ k ih =>
    intro y1 I hI
    rw [LF_X12_power_12]
    refine Pre.ite ?_ ?_
    ·
      exact Pre.so hI
    ·
      refine Pre.b1 (Ψ := fun _ => True) Pre.an (fun b4 _ => ?_)
      refine Pre.b1 (Ψ := fun _ => True) Pre.an (fun s6 _ => ?_)
      refine Pre.b2 (Ψ := (fun (r : Int32 × MI) => Fr KM I0 r.2)) ?_ (fun s16 I17 h_I17 => ?_)
      ·
        refine Pre.ite ?_ ?_
        ·
          exact Pre.so hI
        ·
          refine Pre.b2 (Ψ := (fun (r : Int32 × MI) => Fr KM I0 r.2)) (fs_F_X12_given _ _ hI) (fun v21 I22 h_I22 => ?_)
          exact Pre.so h_I22
      ·
        refine Pre.wm (Fr.up (K := KM) (I0 := I0) h_I17 (by unfold KM; omega)) (fun I24 h_I24 => ?_)
        refine Pre.wv ?_
        exact ih _ _ h_I24
theorem fs_LF_X12_power_74 {N : Nat} : ∀ (k : Nat) (y1 : Int32) (I : MI), Fr KM I0 I → Pre (LF_X12_power_74 N k 24 y1 I L (GRf pb)) (fun (r : MI) => Fr KM I0 r) := by
  intro k
  induction k with
  | zero =>
    intro y1 I hI r hr
    rw [LF_X12_power_74] at hr
    cases hr
  | succ k ih =>
    intro y1 I hI
    rw [LF_X12_power_74]
    refine Pre.ite ?_ ?_
    ·
      exact Pre.so hI
    ·
      refine Pre.b1 (Ψ := fun _ => True) Pre.an (fun b29 _ => ?_)
      refine Pre.b2 (Ψ := (fun (r : Int32 × MI) => Fr KM I0 r.2)) ?_ (fun s31 I32 h_I32 => ?_)
      ·
        refine Pre.ite ?_ ?_
        ·
          refine Pre.b1 (Ψ := fun _ => True) Pre.an (fun b39 _ => ?_)
          refine Pre.b2 (Ψ := (fun (r : Int32 × MI) => Fr KM I0 r.2)) ?_ (fun s41 I42 h_I42 => ?_)
          ·
            refine Pre.ite ?_ ?_
            ·
              exact Pre.so hI
            ·
              refine Pre.b1 (Ψ := fun _ => True) Pre.an (fun b46 _ => ?_)
              refine Pre.b2 (Ψ := (fun (r : Int32 × MI) => Fr KM I0 r.2)) ?_ (fun s48 I49 h_I49 => ?_)
              ·
                refine Pre.ite ?_ ?_
                ·
                  exact Pre.so hI
                ·
                  refine Pre.b2 (Ψ := (fun (r : Int32 × MI) => Fr KM I0 r.2)) (fs_F_X12_answer _ _ _ hI) (fun v53 I54 h_I54 => ?_)
                  exact Pre.so h_I54
              ·
                exact Pre.so h_I49
          ·
            exact Pre.so h_I42
        ·
          refine Pre.b2 (Ψ := (fun (r : Int32 × MI) => Fr KM I0 r.2)) (fs_F_X12_answer _ _ _ hI) (fun v36 I37 h_I37 => ?_)
          exact Pre.so h_I37
      ·
        refine Pre.wm (Fr.up (K := KM) (I0 := I0) h_I32 (by unfold KM; omega)) (fun I56 h_I56 => ?_)
        refine Pre.wv ?_
        exact ih _ _ h_I56
theorem fs_LF_X12_power_145 {N : Nat} : ∀ (k : Nat) (y1 : Int32) (y2 : Int32) (I : MI), Fr KM I0 I → Pre (LF_X12_power_145 N k 24 y1 y2 I L (GRf pb)) (fun (r : Int32 × MI) => Fr KM I0 r.2) := by
  intro k
  induction k with
  | zero =>
    intro y1 y2 I hI r hr
    rw [LF_X12_power_145] at hr
    cases hr
  | succ k ih =>
    intro y1 y2 I hI
    rw [LF_X12_power_145]
    refine Pre.ite ?_ ?_
    ·
      exact Pre.so hI
    ·
      refine Pre.b1 (Ψ := fun _ => True) Pre.an (fun b62 _ => ?_)
      refine Pre.b2 (Ψ := (fun (r : Int32 × MI) => Fr KM I0 r.2)) ?_ (fun u64 I65 h_I65 => ?_)
      ·
        refine Pre.ite ?_ ?_
        ·
          exact Pre.so hI
        ·
          refine Pre.b1 (Ψ := fun _ => True) Pre.an (fun b69 _ => ?_)
          refine Pre.b2 (Ψ := (fun (r : Int32 × MI) => Fr KM I0 r.2)) ?_ (fun u71 I72 h_I72 => ?_)
          ·
            refine Pre.ite ?_ ?_
            ·
              exact Pre.so hI
            ·
              refine Pre.b1 (Ψ := fun _ => True) Pre.an (fun v76 _ => ?_)
              refine Pre.b1 (Ψ := fun _ => True) Pre.an (fun s78 _ => ?_)
              refine Pre.b1 (Ψ := fun _ => True) Pre.an (fun s96 _ => ?_)
              refine Pre.b1 (Ψ := fun _ => True) Pre.an (fun s100 _ => ?_)
              refine Pre.b1 (Ψ := (fun (r : MI) => Fr KM I0 r)) (fs_F_X12_grow _ _ _ _ hI) (fun I104 h_I104 => ?_)
              refine Pre.b1 (Ψ := fun _ => True) Pre.an (fun s106 _ => ?_)
              refine Pre.wv ?_
              exact Pre.so h_I104
          ·
            exact Pre.so h_I72
      ·
        refine Pre.wv ?_
        exact ih _ _ _ h_I65
theorem fs_F_X12_power {N : Nat}  (I : MI)  (hI : Fr KM I0 I) : Pre (F_X12_power N 24  I L (GRf pb)) (fun (r : MI) => Fr KM I0 r) := by
  rw [F_X12_power]
  refine Pre.ite ?_ Pre.no
  refine Pre.wm (Fr.up (K := KM) (I0 := I0) hI (by unfold KM; omega)) (fun I1 h_I1 => ?_)
  refine Pre.wm (Fr.up (K := KM) (I0 := I0) h_I1 (by unfold KM; omega)) (fun I2 h_I2 => ?_)
  refine Pre.b1 (Ψ := (fun (r : MI) => Fr KM I0 r)) (fs_LF_X12_power_12 _ _ _ h_I2) (fun z26 h_z26 => ?_)
  refine Pre.b1 (Ψ := (fun (r : MI) => Fr KM I0 r)) (fs_LF_X12_power_74 _ _ _ h_z26) (fun z58 h_z58 => ?_)
  refine Pre.wv ?_
  refine Pre.b1 (Ψ := (fun (r : Int32 × MI) => Fr KM I0 r.2)) (fs_LF_X12_power_145 _ _ _ _ h_z58) (fun z112 h_z112 => ?_)
  refine Pre.ite ?_ ?_
  ·
    exact Pre.so h_z112
  ·
    refine Pre.b1 (Ψ := (fun (r : MI) => Fr KM I0 r)) (fs_F_X12_brownout _ h_z112) (fun I115 h_I115 => ?_)
    exact Pre.so h_I115
theorem fs_LF_X12_flow_2 {N : Nat} : ∀ (k : Nat) (y1 : Int32) (I : MI), Fr KM I0 I → Pre (LF_X12_flow_2 N k 24 y1 I L (GRf pb)) (fun (r : MI) => Fr KM I0 r) := by
  intro k
  induction k with
  | zero =>
    intro y1 I hI r hr
    rw [LF_X12_flow_2] at hr
    cases hr
  | succ k ih =>
    intro y1 I hI
    rw [LF_X12_flow_2]
    refine Pre.ite ?_ ?_
    ·
      exact Pre.so hI
    ·
      refine Pre.b1 (Ψ := fun _ => True) Pre.an (fun b2 _ => ?_)
      refine Pre.b1 (Ψ := (fun (r : MI) => Fr KM I0 r)) ?_ (fun I4 h_I4 => ?_)
      ·
        refine Pre.ite ?_ ?_
        ·
          exact Pre.so hI
        ·
          refine Pre.b1 (Ψ := fun _ => True) Pre.an (fun b8 _ => ?_)
          refine Pre.b1 (Ψ := (fun (r : MI) => Fr KM I0 r)) ?_ (fun I10 h_I10 => ?_)
          ·
            refine Pre.ite ?_ ?_
            ·
              exact Pre.so hI
            ·
              refine Pre.b1 (Ψ := fun _ => True) Pre.an (fun v14 _ => ?_)
              refine Pre.b1 (Ψ := fun _ => True) Pre.an (fun v16 _ => ?_)
              refine Pre.b1 (Ψ := fun _ => True) Pre.an (fun b18 _ => ?_)
              refine Pre.b1 (Ψ := (fun (r : MI) => Fr KM I0 r)) ?_ (fun I20 h_I20 => ?_)
              ·
                refine Pre.ite ?_ ?_
                ·
                  exact Pre.so hI
                ·
                  refine Pre.b1 (Ψ := fun _ => True) Pre.an (fun b24 _ => ?_)
                  refine Pre.b1 (Ψ := (fun (r : MI) => Fr KM I0 r)) ?_ (fun I26 h_I26 => ?_)
                  ·
                    refine Pre.ite ?_ ?_
                    ·
                      exact Pre.so hI
                    ·
                      refine Pre.b1 (Ψ := fun _ => True) Pre.an (fun v30 _ => ?_)
                      refine Pre.b1 (Ψ := fun _ => True) Pre.an (fun v32 _ => ?_)
                      refine Pre.b1 (Ψ := fun _ => True) Pre.an (fun s34 _ => ?_)
                      refine Pre.b1 (Ψ := fun _ => True) Pre.an (fun s38 _ => ?_)
                      refine Pre.b1 (Ψ := fun _ => True) Pre.an (fun s42 _ => ?_)
                      refine Pre.b1 (Ψ := fun _ => True) Pre.an (fun v46 _ => ?_)
                      refine Pre.b1 (Ψ := fun _ => True) Pre.an (fun v48 _ => ?_)
                      refine Pre.b1 (Ψ := fun _ => True) Pre.an (fun v50 _ => ?_)
                      refine Pre.b1 (Ψ := fun _ => True) Pre.an (fun v52 _ => ?_)
                      refine Pre.b1 (Ψ := fun _ => True) Pre.an (fun v54 _ => ?_)
                      refine Pre.b1 (Ψ := fun _ => True) Pre.an (fun v56 _ => ?_)
                      refine Pre.b1 (Ψ := fun _ => True) Pre.an (fun v58 _ => ?_)
                      refine Pre.b1 (Ψ := fun _ => True) Pre.an (fun v60 _ => ?_)
                      refine Pre.b1 (Ψ := fun _ => True) Pre.an (fun v62 _ => ?_)
                      refine Pre.b1 (Ψ := (fun (r : MI) => Fr KM I0 r)) (fs_F_X12_grow _ _ _ _ hI) (fun I64 h_I64 => ?_)
                      refine Pre.b1 (Ψ := (fun (r : MI) => Fr KM I0 r)) (fs_F_X12_grow _ _ _ _ h_I64) (fun I66 h_I66 => ?_)
                      exact Pre.so h_I66
                  ·
                    exact Pre.so h_I26
              ·
                exact Pre.so h_I20
          ·
            exact Pre.so h_I10
      ·
        refine Pre.wv ?_
        exact ih _ _ h_I4
theorem fs_F_X12_flow {N : Nat}  (I : MI)  (hI : Fr KM I0 I) : Pre (F_X12_flow N 24  I L (GRf pb)) (fun (r : MI) => Fr KM I0 r) := by
  rw [F_X12_flow]
  refine Pre.ite ?_ Pre.no
  refine Pre.b1 (Ψ := (fun (r : MI) => Fr KM I0 r)) (fs_LF_X12_flow_2 _ _ _ hI) (fun z69 h_z69 => ?_)
  exact Pre.so h_z69
theorem fs_F_X12_heated {N : Nat} (x1 : Int32) (I : MI)  (hI : Fr KM I0 I) : Pre (F_X12_heated N 24 x1 I L (GRf pb)) (fun (r : Int32 × MI) => Fr KM I0 r.2) := by
  rw [F_X12_heated]
  refine Pre.ite ?_ Pre.no
  refine Pre.b1 (Ψ := fun _ => True) Pre.an (fun v1 _ => ?_)
  refine Pre.b1 (Ψ := fun _ => True) Pre.an (fun b3 _ => ?_)
  refine Pre.b2 (Ψ := (fun (r : Int32 × MI) => Fr KM I0 r.2)) ?_ (fun s5 I6 h_I6 => ?_)
  ·
    refine Pre.ite ?_ ?_
    ·
      exact Pre.so hI
    ·
      refine Pre.b2 (Ψ := (fun (r : Int32 × MI) => Fr KM I0 r.2)) (fs_F_X12_answer _ _ _ hI) (fun v10 I11 h_I11 => ?_)
      refine Pre.b1 (Ψ := fun _ => True) Pre.an (fun b13 _ => ?_)
      refine Pre.b1 (Ψ := fun _ => True) Pre.an (fun s15 _ => ?_)
      exact Pre.so h_I11
  ·
    refine Pre.b2 (Ψ := (fun (r : Int32 × MI) => Fr KM I0 r.2)) (fs_F_X12_answer _ _ _ h_I6) (fun v19 I20 h_I20 => ?_)
    refine Pre.ite Pre.no ?_
    refine Pre.wv ?_
    refine Pre.b1 (Ψ := fun _ => True) Pre.an (fun u24 _ => ?_)
    refine Pre.b1 (Ψ := fun _ => True) Pre.an (fun u31 _ => ?_)
    refine Pre.b1 (Ψ := fun _ => True) Pre.an (fun z85 _ => ?_)
    refine Pre.b2 (Ψ := (fun (r : Int32 × MI) => Fr KM I0 r.2)) (fs_F_X12_answer _ _ _ h_I20) (fun v87 I88 h_I88 => ?_)
    refine Pre.ite Pre.no ?_
    refine Pre.b1 (Ψ := fun _ => True) Pre.an (fun v91 _ => ?_)
    exact Pre.so h_I88
theorem fs_LF_X12_heat_2 {N : Nat} : ∀ (k : Nat) (y1 : Int32) (I : MI), Fr KM I0 I → Pre (LF_X12_heat_2 N k 24 y1 I L (GRf pb)) (fun (r : MI) => Fr KM I0 r) := by
  intro k
  induction k with
  | zero =>
    intro y1 I hI r hr
    rw [LF_X12_heat_2] at hr
    cases hr
  | succ k ih =>
    intro y1 I hI
    rw [LF_X12_heat_2]
    refine Pre.ite ?_ ?_
    ·
      exact Pre.so hI
    ·
      refine Pre.bd (Ψ := fun z => some z = rf (GRf pb) 24 62 20) (fun z hz => hz.symm) (fun a2 e_a2 => ?_)
      rw [rf_24_62] at e_a2
      have e_a2 := Option.some.inj e_a2
      subst e_a2
      refine Pre.b2 (Ψ := (fun (r : Int32 × MI) => Fr KM I0 r.2)) (fs_F_X12_heated _ _ hI) (fun v3 I4 h_I4 => ?_)
      refine Pre.bd (Fr.w1 (K := KM) (I0 := I0) h_I4 (fun p => by unfold KM; omega)) (fun I6 h_I6 => ?_)
      refine Pre.wv ?_
      exact ih _ _ h_I6
theorem fs_LF_X12_heat_29 {N : Nat} : ∀ (k : Nat) (y1 : Int32) (I : MI), Fr KM I0 I → Pre (LF_X12_heat_29 N k 24 y1 I L (GRf pb)) (fun (r : MI) => Fr KM I0 r) := by
  intro k
  induction k with
  | zero =>
    intro y1 I hI r hr
    rw [LF_X12_heat_29] at hr
    cases hr
  | succ k ih =>
    intro y1 I hI
    rw [LF_X12_heat_29]
    refine Pre.ite ?_ ?_
    ·
      exact Pre.so hI
    ·
      refine Pre.bd (Ψ := fun z => some z = rf (GRf pb) 24 62 20) (fun z hz => hz.symm) (fun a11 e_a11 => ?_)
      rw [rf_24_62] at e_a11
      have e_a11 := Option.some.inj e_a11
      subst e_a11
      refine Pre.bd (Ψ := fun _ => True) Pre.an (fun v12 _ => ?_)
      refine Pre.b1 (Ψ := (fun (r : MI) => Fr KM I0 r)) (fs_F_X12_set _ _ _ _ hI) (fun I13 h_I13 => ?_)
      refine Pre.wv ?_
      exact ih _ _ h_I13
theorem fs_LF_X12_heat_58 {N : Nat} : ∀ (k : Nat) (y1 : Int32) (I : MI), Fr KM I0 I → Pre (LF_X12_heat_58 N k 24 y1 I L (GRf pb)) (fun (r : MI) => Fr KM I0 r) := by
  intro k
  induction k with
  | zero =>
    intro y1 I hI r hr
    rw [LF_X12_heat_58] at hr
    cases hr
  | succ k ih =>
    intro y1 I hI
    rw [LF_X12_heat_58]
    refine Pre.ite ?_ ?_
    ·
      exact Pre.so hI
    ·
      refine Pre.b1 (Ψ := fun _ => True) Pre.an (fun b19 _ => ?_)
      refine Pre.b1 (Ψ := (fun (r : MI) => Fr KM I0 r)) ?_ (fun I21 h_I21 => ?_)
      ·
        refine Pre.ite ?_ ?_
        ·
          exact Pre.so hI
        ·
          refine Pre.bd (Ψ := fun z => some z = rf (GRf pb) 24 62 20) (fun z hz => hz.symm) (fun a25 e_a25 => ?_)
          rw [rf_24_62] at e_a25
          have e_a25 := Option.some.inj e_a25
          subst e_a25
          refine Pre.bd (Ψ := fun _ => True) Pre.an (fun v26 _ => ?_)
          refine Pre.b1 (Ψ := fun _ => True) Pre.an (fun b27 _ => ?_)
          refine Pre.b1 (Ψ := (fun (r : MI) => Fr KM I0 r)) ?_ (fun I29 h_I29 => ?_)
          ·
            refine Pre.ite ?_ ?_
            ·
              refine Pre.b1 (Ψ := (fun (r : MI) => Fr KM I0 r)) (fs_F_X12_set _ _ _ _ hI) (fun I33 h_I33 => ?_)
              refine Pre.b1 (Ψ := fun _ => True) Pre.an (fun b35 _ => ?_)
              refine Pre.b1 (Ψ := (fun (r : MI) => Fr KM I0 r)) ?_ (fun I37 h_I37 => ?_)
              ·
                refine Pre.ite ?_ ?_
                ·
                  exact Pre.so h_I33
                ·
                  refine Pre.b1 (Ψ := (fun (r : MI) => Fr KM I0 r)) (fs_F_X12_set _ _ _ _ h_I33) (fun I41 h_I41 => ?_)
                  exact Pre.so h_I41
              ·
                refine Pre.wm (Fr.up (K := KM) (I0 := I0) h_I37 (by unfold KM; omega)) (fun I43 h_I43 => ?_)
                refine Pre.wm (Fr.up (K := KM) (I0 := I0) h_I43 (by unfold KM; omega)) (fun I44 h_I44 => ?_)
                exact Pre.so h_I44
            ·
              exact Pre.so hI
          ·
            exact Pre.so h_I29
      ·
        refine Pre.wv ?_
        exact ih _ _ h_I21
theorem fs_LF_X12_heat_144 {N : Nat} : ∀ (k : Nat) (y1 : Int32) (I : MI), Fr KM I0 I → Pre (LF_X12_heat_144 N k 24 y1 I L (GRf pb)) (fun (r : MI) => Fr KM I0 r) := by
  intro k
  induction k with
  | zero =>
    intro y1 I hI r hr
    rw [LF_X12_heat_144] at hr
    cases hr
  | succ k ih =>
    intro y1 I hI
    rw [LF_X12_heat_144]
    refine Pre.ite ?_ ?_
    ·
      exact Pre.so hI
    ·
      refine Pre.b1 (Ψ := fun _ => True) Pre.an (fun b49 _ => ?_)
      refine Pre.b1 (Ψ := (fun (r : MI) => Fr KM I0 r)) ?_ (fun I51 h_I51 => ?_)
      ·
        refine Pre.ite ?_ ?_
        ·
          exact Pre.so hI
        ·
          refine Pre.b1 (Ψ := fun _ => True) Pre.an (fun b55 _ => ?_)
          refine Pre.b1 (Ψ := (fun (r : MI) => Fr KM I0 r)) ?_ (fun I57 h_I57 => ?_)
          ·
            refine Pre.ite ?_ ?_
            ·
              exact Pre.so hI
            ·
              refine Pre.b1 (Ψ := fun _ => True) Pre.an (fun v61 _ => ?_)
              refine Pre.b1 (Ψ := fun _ => True) Pre.an (fun v63 _ => ?_)
              refine Pre.b1 (Ψ := fun _ => True) Pre.an (fun v65 _ => ?_)
              refine Pre.b1 (Ψ := fun _ => True) Pre.an (fun v67 _ => ?_)
              refine Pre.b1 (Ψ := (fun (r : MI) => Fr KM I0 r)) ?_ (fun I69 h_I69 => ?_)
              ·
                refine Pre.ite ?_ ?_
                ·
                  refine Pre.b1 (Ψ := fun _ => True) Pre.an (fun v73 _ => ?_)
                  refine Pre.b1 (Ψ := fun _ => True) Pre.an (fun v75 _ => ?_)
                  refine Pre.b1 (Ψ := (fun (r : MI) => Fr KM I0 r)) ?_ (fun I77 h_I77 => ?_)
                  ·
                    refine Pre.ite ?_ ?_
                    ·
                      exact Pre.so hI
                    ·
                      refine Pre.b1 (Ψ := (fun (r : MI) => Fr KM I0 r)) (fs_F_X12_set _ _ _ _ hI) (fun I81 h_I81 => ?_)
                      exact Pre.so h_I81
                  ·
                    exact Pre.so h_I77
                ·
                  refine Pre.b1 (Ψ := (fun (r : MI) => Fr KM I0 r)) (fs_F_X12_set _ _ _ _ hI) (fun I83 h_I83 => ?_)
                  exact Pre.so h_I83
              ·
                exact Pre.so h_I69
          ·
            exact Pre.so h_I57
      ·
        refine Pre.wv ?_
        exact ih _ _ h_I51
theorem fs_F_X12_heat {N : Nat}  (I : MI)  (hI : Fr KM I0 I) : Pre (F_X12_heat N 24  I L (GRf pb)) (fun (r : MI) => Fr KM I0 r) := by
  rw [F_X12_heat]
  refine Pre.ite ?_ Pre.no
  refine Pre.b1 (Ψ := (fun (r : MI) => Fr KM I0 r)) (fs_LF_X12_heat_2 _ _ _ hI) (fun z8 h_z8 => ?_)
  refine Pre.b1 (Ψ := (fun (r : MI) => Fr KM I0 r)) (fs_LF_X12_heat_29 _ _ _ h_z8) (fun z16 h_z16 => ?_)
  refine Pre.b1 (Ψ := (fun (r : MI) => Fr KM I0 r)) (fs_LF_X12_heat_58 _ _ _ h_z16) (fun z46 h_z46 => ?_)
  refine Pre.b1 (Ψ := (fun (r : MI) => Fr KM I0 r)) (fs_LF_X12_heat_144 _ _ _ h_z46) (fun z86 h_z86 => ?_)
  exact Pre.so h_z86
theorem fs_LF_X12_frames_86 {N : Nat} : ∀ (k : Nat) (y1 : Int32) (I : MI), Fr KM I0 I → Pre (LF_X12_frames_86 N k 24 y1 I L (GRf pb)) (fun (r : MI) => Fr KM I0 r) := by
  intro k
  induction k with
  | zero =>
    intro y1 I hI r hr
    rw [LF_X12_frames_86] at hr
    cases hr
  | succ k ih =>
    intro y1 I hI
    rw [LF_X12_frames_86]
    refine Pre.ite ?_ ?_
    ·
      exact Pre.so hI
    ·
      refine Pre.bd (Ψ := fun z => some z = rf (GRf pb) 24 63 20) (fun z hz => hz.symm) (fun a12 e_a12 => ?_)
      rw [rf_24_63] at e_a12
      have e_a12 := Option.some.inj e_a12
      subst e_a12
      refine Pre.bd (Ψ := fun z => some z = rf (GRf pb) 24 36 20) (fun z hz => hz.symm) (fun a13 e_a13 => ?_)
      rw [rf_24_36] at e_a13
      have e_a13 := Option.some.inj e_a13
      subst e_a13
      refine Pre.bd (Ψ := fun _ => True) Pre.an (fun v14 _ => ?_)
      refine Pre.bd (Fr.w1 (K := KM) (I0 := I0) hI (fun p => by unfold KM; omega)) (fun I15 h_I15 => ?_)
      refine Pre.wv ?_
      exact ih _ _ h_I15
theorem fs_LF_X12_frames_212 {N : Nat} : ∀ (k : Nat) (y1 : Int32) (y2 : Int32) (I : MI), Fr KM I0 I → Pre (LF_X12_frames_212 N k 24 y1 y2 I L (GRf pb)) (fun (r : MI) => Fr KM I0 r) := by
  intro k
  induction k with
  | zero =>
    intro y1 y2 I hI r hr
    rw [LF_X12_frames_212] at hr
    cases hr
  | succ k ih =>
    intro y1 y2 I hI
    rw [LF_X12_frames_212]
    refine Pre.ite ?_ ?_
    ·
      exact Pre.so hI
    ·
      refine Pre.bd (Ψ := fun z => some z = rf (GRf pb) 24 63 20) (fun z hz => hz.symm) (fun a47 e_a47 => ?_)
      rw [rf_24_63] at e_a47
      have e_a47 := Option.some.inj e_a47
      subst e_a47
      refine Pre.bd (Ψ := fun _ => True) Pre.an (fun v48 _ => ?_)
      refine Pre.b1 (Ψ := (fun (r : MI) => Fr KM I0 r)) (fs_F_X12_keep _ _ _ hI) (fun I49 h_I49 => ?_)
      refine Pre.wv ?_
      exact ih _ _ _ h_I49
theorem fs_F_X12_frames {N : Nat}  (I : MI)  (hI : Fr KM I0 I) : Pre (F_X12_frames N 24  I L (GRf pb)) (fun (r : MI) => Fr KM I0 r) := by
  rw [F_X12_frames]
  refine Pre.ite ?_ Pre.no
  refine Pre.ite ?_ ?_
  ·
    refine Pre.bd (Ψ := fun z => some z = rf (GRf pb) 24 63 20) (fun z hz => hz.symm) (fun a2 e_a2 => ?_)
    rw [rf_24_63] at e_a2
    have e_a2 := Option.some.inj e_a2
    subst e_a2
    refine Pre.bd (Fr.w1 (K := KM) (I0 := I0) hI (fun p => by unfold KM; omega)) (fun I3 h_I3 => ?_)
    refine Pre.bd (Fr.w1 (K := KM) (I0 := I0) h_I3 (fun p => by unfold KM; omega)) (fun I4 h_I4 => ?_)
    refine Pre.bd (Fr.w1 (K := KM) (I0 := I0) h_I4 (fun p => by unfold KM; omega)) (fun I5 h_I5 => ?_)
    refine Pre.bd (Fr.w1 (K := KM) (I0 := I0) h_I5 (fun p => by unfold KM; omega)) (fun I6 h_I6 => ?_)
    refine Pre.b1 (Ψ := fun _ => True) Pre.an (fun v7 _ => ?_)
    refine Pre.bd (Fr.w1 (K := KM) (I0 := I0) h_I6 (fun p => by unfold KM; omega)) (fun I9 h_I9 => ?_)
    refine Pre.bd (Fr.w1 (K := KM) (I0 := I0) h_I9 (fun p => by unfold KM; omega)) (fun I10 h_I10 => ?_)
    refine Pre.b1 (Ψ := (fun (r : MI) => Fr KM I0 r)) (fs_LF_X12_frames_86 _ _ _ h_I10) (fun z17 h_z17 => ?_)
    refine Pre.b1 (Ψ := fun _ => True) Pre.an (fun v19 _ => ?_)
    refine Pre.bd (Fr.w1 (K := KM) (I0 := I0) h_z17 (fun p => by unfold KM; omega)) (fun I21 h_I21 => ?_)
    refine Pre.b1 (Ψ := fun _ => True) Pre.an (fun v22 _ => ?_)
    refine Pre.bd (Fr.w1 (K := KM) (I0 := I0) h_I21 (fun p => by unfold KM; omega)) (fun I24 h_I24 => ?_)
    refine Pre.b1 (Ψ := fun _ => True) Pre.an (fun v25 _ => ?_)
    refine Pre.bd (Fr.w1 (K := KM) (I0 := I0) h_I24 (fun p => by unfold KM; omega)) (fun I27 h_I27 => ?_)
    refine Pre.wv ?_
    refine Pre.b1 (Ψ := fun _ => True) Pre.an (fun z43 _ => ?_)
    refine Pre.ite ?_ ?_
    ·
      refine Pre.wm (Fr.up (K := KM) (I0 := I0) h_I27 (by unfold KM; omega)) (fun I55 h_I55 => ?_)
      exact Pre.so h_I55
    ·
      refine Pre.b1 (Ψ := (fun (r : MI) => Fr KM I0 r)) (fs_LF_X12_frames_212 _ _ _ _ h_I27) (fun z52 h_z52 => ?_)
      refine Pre.wm (Fr.up (K := KM) (I0 := I0) h_z52 (by unfold KM; omega)) (fun I54 h_I54 => ?_)
      exact Pre.so h_I54
  ·
    exact Pre.so hI
theorem fs_F_X12_goesDown (x1 : Int32) (x2 : Int32) (I : MI)  (hI : Fr KM I0 I) : Pre (F_X12_goesDown 24 x1 x2 I L (GRf pb)) (fun (r : MI) => Fr KM I0 r) := by
  rw [F_X12_goesDown]
  refine Pre.ite ?_ Pre.no
  refine Pre.bd (Ψ := fun z => some z = rf (GRf pb) 24 51 20) (fun z hz => hz.symm) (fun a1 e_a1 => ?_)
  rw [rf_24_51] at e_a1
  have e_a1 := Option.some.inj e_a1
  subst e_a1
  refine Pre.bd (Fr.w1 (K := KM) (I0 := I0) hI (fun p => by unfold KM; omega)) (fun I2 h_I2 => ?_)
  refine Pre.wm (Fr.up (K := KM) (I0 := I0) h_I2 (by unfold KM; omega)) (fun I3 h_I3 => ?_)
  refine Pre.b1 (Ψ := (fun (r : MI) => Fr KM I0 r)) (fs_F_X12_grow _ _ _ _ h_I3) (fun I4 h_I4 => ?_)
  exact Pre.so h_I4
theorem fs_LF_X12_send_38 {N : Nat} : ∀ (k : Nat) (y1 : Int32) (y2 : Int32) (y3 : Int32) (y4 : Int32) (y5 : Int32) (I : MI), Fr KM I0 I → Pre (LF_X12_send_38 N k 24 y1 y2 y3 y4 y5 I L (GRf pb)) (fun (r : MI) => Fr KM I0 r) := by
  intro k
  induction k with
  | zero =>
    intro y1 y2 y3 y4 y5 I hI r hr
    rw [LF_X12_send_38] at hr
    cases hr
  | succ k ih =>
    intro y1 y2 y3 y4 y5 I hI
    rw [LF_X12_send_38]
    refine Pre.ite ?_ ?_
    ·
      exact Pre.so hI
    ·
      refine Pre.bd (Ψ := fun z => some z = rf (GRf pb) 24 52 20) (fun z hz => hz.symm) (fun a12 e_a12 => ?_)
      rw [rf_24_52] at e_a12
      have e_a12 := Option.some.inj e_a12
      subst e_a12
      refine Pre.bd (Ψ := fun _ => True) Pre.an (fun v13 _ => ?_)
      refine Pre.b1 (Ψ := (fun (r : MI) => Fr KM I0 r)) (fs_F_X12_goesDown _ _ _ hI) (fun I14 h_I14 => ?_)
      refine Pre.wv ?_
      exact ih _ _ _ _ _ _ h_I14
theorem fs_LF_X12_send_73 {N : Nat} : ∀ (k : Nat) (y1 : Int32) (y2 : Int32) (y3 : Int32) (y4 : Int32) (y5 : Int32) (I : MI), Fr KM I0 I → Pre (LF_X12_send_73 N k 24 y1 y2 y3 y4 y5 I L (GRf pb)) (fun (r : MI) => Fr KM I0 r) := by
  intro k
  induction k with
  | zero =>
    intro y1 y2 y3 y4 y5 I hI r hr
    rw [LF_X12_send_73] at hr
    cases hr
  | succ k ih =>
    intro y1 y2 y3 y4 y5 I hI
    rw [LF_X12_send_73]
    refine Pre.b1 (Ψ := fun _ => True) Pre.an (fun v19 _ => ?_)
    refine Pre.ite ?_ ?_
    ·
      exact Pre.so hI
    ·
      refine Pre.bd (Ψ := fun z => some z = rf (GRf pb) 24 52 20) (fun z hz => hz.symm) (fun a22 e_a22 => ?_)
      rw [rf_24_52] at e_a22
      have e_a22 := Option.some.inj e_a22
      subst e_a22
      refine Pre.bd (Ψ := fun _ => True) Pre.an (fun v23 _ => ?_)
      refine Pre.bd (Fr.w1 (K := KM) (I0 := I0) hI (fun p => by unfold KM; omega)) (fun I24 h_I24 => ?_)
      refine Pre.wv ?_
      exact ih _ _ _ _ _ _ h_I24
theorem fs_LF_X12_send_13 {N : Nat} : ∀ (k : Nat) (y1 : Int32) (y2 : Int32) (y3 : Int32) (I : MI), Fr KM I0 I → Pre (LF_X12_send_13 N k 24 y1 y2 y3 I L (GRf pb)) (fun (r : MI) => Fr KM I0 r) := by
  intro k
  induction k with
  | zero =>
    intro y1 y2 y3 I hI r hr
    rw [LF_X12_send_13] at hr
    cases hr
  | succ k ih =>
    intro y1 y2 y3 I hI
    rw [LF_X12_send_13]
    refine Pre.ite ?_ ?_
    ·
      exact Pre.so hI
    ·
      refine Pre.ite ?_ ?_
      ·
        exact Pre.so hI
      ·
        refine Pre.b1 (Ψ := fun _ => True) Pre.an (fun v7 _ => ?_)
        refine Pre.b1 (Ψ := fun _ => True) Pre.an (fun v9 _ => ?_)
        refine Pre.b1 (Ψ := (fun (r : MI) => Fr KM I0 r)) (fs_LF_X12_send_38 _ _ _ _ _ _ _ hI) (fun z17 h_z17 => ?_)
        refine Pre.b1 (Ψ := (fun (r : MI) => Fr KM I0 r)) (fs_LF_X12_send_73 _ _ _ _ _ _ _ h_z17) (fun z26 h_z26 => ?_)
        refine Pre.b1 (Ψ := (fun (r : MI) => Fr KM I0 r)) (fs_F_X12_grow _ _ _ _ h_z26) (fun I28 h_I28 => ?_)
        refine Pre.wv ?_
        refine Pre.b1 (Ψ := fun _ => True) Pre.an (fun v31 _ => ?_)
        exact ih _ _ _ _ h_I28
theorem fs_F_X12_send {N : Nat} (x1 : Int32) (I : MI)  (hI : Fr KM I0 I) : Pre (F_X12_send N 24 x1 I L (GRf pb)) (fun (r : MI) => Fr KM I0 r) := by
  rw [F_X12_send]
  refine Pre.ite ?_ Pre.no
  refine Pre.b1 (Ψ := fun _ => True) Pre.an (fun v1 _ => ?_)
  refine Pre.b1 (Ψ := fun _ => True) Pre.an (fun v3 _ => ?_)
  refine Pre.b1 (Ψ := (fun (r : MI) => Fr KM I0 r)) (fs_LF_X12_send_13 _ _ _ _ _ hI) (fun z33 h_z33 => ?_)
  exact Pre.so h_z33
theorem fs_LF_X12_downlink_2 {N : Nat} : ∀ (k : Nat) (y1 : Int32) (I : MI), Fr KM I0 I → Pre (LF_X12_downlink_2 N k 24 y1 I L (GRf pb)) (fun (r : MI) => Fr KM I0 r) := by
  intro k
  induction k with
  | zero =>
    intro y1 I hI r hr
    rw [LF_X12_downlink_2] at hr
    cases hr
  | succ k ih =>
    intro y1 I hI
    rw [LF_X12_downlink_2]
    refine Pre.ite ?_ ?_
    ·
      exact Pre.so hI
    ·
      refine Pre.b1 (Ψ := fun _ => True) Pre.an (fun b2 _ => ?_)
      refine Pre.b1 (Ψ := (fun (r : MI) => Fr KM I0 r)) ?_ (fun I4 h_I4 => ?_)
      ·
        refine Pre.ite ?_ ?_
        ·
          exact Pre.so hI
        ·
          refine Pre.b1 (Ψ := fun _ => True) Pre.an (fun b8 _ => ?_)
          refine Pre.b1 (Ψ := (fun (r : MI) => Fr KM I0 r)) ?_ (fun I10 h_I10 => ?_)
          ·
            refine Pre.ite ?_ ?_
            ·
              exact Pre.so hI
            ·
              refine Pre.b1 (Ψ := fun _ => True) Pre.an (fun b14 _ => ?_)
              refine Pre.b1 (Ψ := (fun (r : MI) => Fr KM I0 r)) ?_ (fun I16 h_I16 => ?_)
              ·
                refine Pre.ite ?_ ?_
                ·
                  exact Pre.so hI
                ·
                  refine Pre.b1 (Ψ := fun _ => True) Pre.an (fun v20 _ => ?_)
                  refine Pre.ite Pre.no ?_
                  refine Pre.b1 (Ψ := (fun (r : MI) => Fr KM I0 r)) ?_ (fun I23 h_I23 => ?_)
                  ·
                    refine Pre.ite ?_ ?_
                    ·
                      refine Pre.b1 (Ψ := (fun (r : MI) => Fr KM I0 r)) (fs_F_X12_goesDown _ _ _ hI) (fun I27 h_I27 => ?_)
                      exact Pre.so h_I27
                    ·
                      exact Pre.so hI
                  ·
                    exact Pre.so h_I23
              ·
                refine Pre.b1 (Ψ := fun _ => True) Pre.an (fun b29 _ => ?_)
                refine Pre.b1 (Ψ := (fun (r : MI) => Fr KM I0 r)) ?_ (fun I31 h_I31 => ?_)
                ·
                  refine Pre.ite ?_ ?_
                  ·
                    exact Pre.so h_I16
                  ·
                    refine Pre.b1 (Ψ := (fun (r : MI) => Fr KM I0 r)) (fs_F_X12_send _ _ h_I16) (fun I35 h_I35 => ?_)
                    exact Pre.so h_I35
                ·
                  exact Pre.so h_I31
          ·
            exact Pre.so h_I10
      ·
        refine Pre.wv ?_
        exact ih _ _ h_I4
theorem fs_F_X12_downlink {N : Nat}  (I : MI)  (hI : Fr KM I0 I) : Pre (F_X12_downlink N 24  I L (GRf pb)) (fun (r : MI) => Fr KM I0 r) := by
  rw [F_X12_downlink]
  refine Pre.ite ?_ Pre.no
  refine Pre.b1 (Ψ := (fun (r : MI) => Fr KM I0 r)) (fs_LF_X12_downlink_2 _ _ _ hI) (fun z38 h_z38 => ?_)
  exact Pre.so h_z38
theorem fs_F_X12_doTick {N : Nat}  (I : MI)  (hI : Fr KM I0 I) : Pre (F_X12_doTick N 24  I L (GRf pb)) (fun (r : MI) => Fr KM I0 r) := by
  rw [F_X12_doTick]
  refine Pre.ite ?_ Pre.no
  refine Pre.wm (Fr.up (K := KM) (I0 := I0) hI (by unfold KM; omega)) (fun I1 h_I1 => ?_)
  refine Pre.b1 (Ψ := (fun (r : MI) => Fr KM I0 r)) (fs_F_X12_shine _ h_I1) (fun I2 h_I2 => ?_)
  refine Pre.b1 (Ψ := (fun (r : MI) => Fr KM I0 r)) (fs_F_X12_doPlan _ h_I2) (fun I4 h_I4 => ?_)
  refine Pre.b1 (Ψ := (fun (r : MI) => Fr KM I0 r)) (fs_F_X12_readSensors _ h_I4) (fun I6 h_I6 => ?_)
  refine Pre.b1 (Ψ := (fun (r : MI) => Fr KM I0 r)) (fs_F_X12_control _ h_I6) (fun I8 h_I8 => ?_)
  refine Pre.b1 (Ψ := (fun (r : MI) => Fr KM I0 r)) (fs_F_X12_turn _ h_I8) (fun I10 h_I10 => ?_)
  refine Pre.b1 (Ψ := (fun (r : MI) => Fr KM I0 r)) (fs_F_X12_power _ h_I10) (fun I12 h_I12 => ?_)
  refine Pre.b1 (Ψ := (fun (r : MI) => Fr KM I0 r)) (fs_F_X12_flow _ h_I12) (fun I14 h_I14 => ?_)
  refine Pre.b1 (Ψ := (fun (r : MI) => Fr KM I0 r)) (fs_F_X12_heat _ h_I14) (fun I16 h_I16 => ?_)
  refine Pre.b1 (Ψ := (fun (r : MI) => Fr KM I0 r)) (fs_F_X12_frames _ h_I16) (fun I18 h_I18 => ?_)
  refine Pre.b1 (Ψ := (fun (r : MI) => Fr KM I0 r)) (fs_F_X12_downlink _ h_I18) (fun I20 h_I20 => ?_)
  refine Pre.b1 (Ψ := fun _ => True) Pre.an (fun s22 _ => ?_)
  refine Pre.wm (Fr.up (K := KM) (I0 := I0) h_I20 (by unfold KM; omega)) (fun I30 h_I30 => ?_)
  refine Pre.wm (Fr.up (K := KM) (I0 := I0) h_I30 (by unfold KM; omega)) (fun I31 h_I31 => ?_)
  exact Pre.so h_I31
theorem fs_LF_X12_run_37 {N : Nat} : ∀ (k : Nat) (y1 : Int32) (y2 : Int32) (I : MI), Fr KM I0 I → Pre (LF_X12_run_37 N k 24 y1 y2 I L (GRf pb)) (fun (r : MI) => Fr KM I0 r) := by
  intro k
  induction k with
  | zero =>
    intro y1 y2 I hI r hr
    rw [LF_X12_run_37] at hr
    cases hr
  | succ k ih =>
    intro y1 y2 I hI
    rw [LF_X12_run_37]
    refine Pre.ite ?_ ?_
    ·
      exact Pre.so hI
    ·
      refine Pre.b1 (Ψ := (fun (r : MI) => Fr KM I0 r)) (fs_F_X12_doTick _ hI) (fun I9 h_I9 => ?_)
      refine Pre.wv ?_
      exact ih _ _ _ h_I9
end P18
