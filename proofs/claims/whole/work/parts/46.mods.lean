theorem mX0_isKind (x0 : Int) (u0 : zMem) : zMd [] u0 u0 (fX0_isKind x0 u0) := by
  unfold fX0_isKind
  refine md_jn (P := fun (f : zMem → zRs) => ∀ (u1 : zMem), zMd [] u0 u1 (f u1)) (fun u1 => ?_) (fun k2 hk2 => ?_)
  ·
    exact md_bl md_ret
  ·
    refine md_if ?_ ?_
    ·
      exact hk2 _
    ·
      refine md_if ?_ ?_
      ·
        exact hk2 _
      ·
        exact md_bl md_ret
theorem mX0_isUnder (x0 x1 : Int) (u0 : zMem) : zMd [] u0 u0 (fX0_isUnder x0 x1 u0) := by
  unfold fX0_isUnder
  refine zlp_ind (fun (f : Int → Int → zMem → zRs) => ∀ (v1 : Int) (v2 : Int) (u3 : zMem), zMd [] u0 u3 (f v1 v2 u3)) (fun _ _ _ => md_none) (fun k4 hk4 v1 v2 u3 => ?_) _ _ _ _
  refine md_if ?_ ?_
  ·
    exact md_bl md_ret
  ·
    refine md_call (mX0_isKind v1 u3) (by decide) (fun v5 u6 => ?_)
    refine md_if ?_ ?_
    ·
      exact md_bl md_ret
    ·
      refine md_if ?_ ?_
      ·
        refine md_ald (fun v7 => ?_)
        exact hk4 _ _ _
      ·
        exact md_bl md_ret
theorem mX0_size (x0 : Int) (u0 : zMem) : zMd [] u0 u0 (fX0_size x0 u0) := by
  unfold fX0_size
  refine md_gf (fun v1 => ?_)
  exact md_ret
theorem mX0_ran (x0 : Int) (u0 : zMem) : zMd [] u0 u0 (fX0_ran x0 u0) := by
  unfold fX0_ran
  refine md_gf (fun v1 => ?_)
  exact md_ret
theorem mX0_has (x0 x1 : Int) (u0 : zMem) : zMd [] u0 u0 (fX0_has x0 x1 u0) := by
  unfold fX0_has
  refine md_jn (P := fun (f : zMem → zRs) => ∀ (u1 : zMem), zMd [] u0 u1 (f u1)) (fun u1 => ?_) (fun k2 hk2 => ?_)
  ·
    exact md_bl md_ret
  ·
    refine md_if ?_ ?_
    ·
      exact hk2 _
    ·
      refine md_gf (fun v3 => ?_)
      refine md_if ?_ ?_
      ·
        exact hk2 _
      ·
        exact md_bl md_ret
theorem mX0_kindOf (x0 x1 : Int) (u0 : zMem) : zMd [] u0 u0 (fX0_kindOf x0 x1 u0) := by
  unfold fX0_kindOf
  refine md_vc (mX0_has x0 x1 u0) (by decide) (fun v1 u2 => ?_)
  refine md_if ?_ ?_
  ·
    exact md_ret
  ·
    refine md_gfA (by decide +kernel) (by decide) (fun v3 ov3 => ?_)
    refine md_ald (fun v4 => ?_)
    exact md_ret
theorem mX0_admit (x0 x1 : Int) (u0 : zMem) : zMd [0, 2] u0 u0 (fX0_admit x0 x1 u0) := by
  unfold fX0_admit
  refine md_gf (fun v1 => ?_)
  refine md_if ?_ ?_
  ·
    refine md_gfA (by decide +kernel) (by decide) (fun v2 ov2 => ?_)
    refine md_gf (fun v3 => ?_)
    refine md_ast ov2 (by decide) (by decide) (fun u4 => ?_)
    refine md_gf (fun v5 => ?_)
    refine md_pf (by decide) (by decide) (by decide) (fun u6 => ?_)
    refine md_gf (fun v7 => ?_)
    exact md_ret
  ·
    exact md_ret
theorem mX0_traced (x0 x1 : Int) (u0 : zMem) : zMd [] u0 u0 (fX0_traced x0 x1 u0) := by
  unfold fX0_traced
  refine md_jn (P := fun (f : zMem → zRs) => ∀ (u1 : zMem), zMd [] u0 u1 (f u1)) (fun u1 => ?_) (fun k2 hk2 => ?_)
  ·
    exact md_ret
  ·
    refine md_if ?_ ?_
    ·
      exact hk2 _
    ·
      refine md_gf (fun v3 => ?_)
      refine md_if ?_ ?_
      ·
        exact hk2 _
      ·
        refine md_if ?_ ?_
        ·
          exact hk2 _
        ·
          refine md_gfA (by decide +kernel) (by decide) (fun v4 ov4 => ?_)
          refine md_ald (fun v5 => ?_)
          exact md_ret
theorem mX0_note (x0 x1 : Int) (u0 : zMem) : zMd [1, 3] u0 u0 (fX0_note x0 x1 u0) := by
  unfold fX0_note
  refine md_gf (fun v1 => ?_)
  refine md_jn (P := fun (f : zMem → zRs) => ∀ (u2 : zMem), zMd [1, 3] u0 u2 (f u2)) (fun u2 => ?_) (fun k3 hk3 => ?_)
  ·
    refine md_gf (fun v4 => ?_)
    refine md_pf (by decide) (by decide) (by decide) (fun u5 => ?_)
    exact md_ret
  ·
    refine md_if ?_ ?_
    ·
      exact hk3 _
    ·
      refine md_gfA (by decide +kernel) (by decide) (fun v6 ov6 => ?_)
      refine md_gf (fun v7 => ?_)
      refine md_ast ov6 (by decide) (by decide) (fun u8 => ?_)
      exact hk3 _
theorem gX0_own_m0 (rec : (Int → Int → Int → Int → zMem → zRs) × (Int → Int → Int → Int → Int → zMem → zRs) × (Int → Int → Int → Int → Int → zMem → zRs)) (ih : (∀ (x0 x1 x2 x3 : Int) (u0 : zMem), zMd [1, 3] u0 u0 (rec.1 x0 x1 x2 x3 u0)) ∧ (∀ (x0 x1 x2 x3 x4 : Int) (u0 : zMem), zMd [1, 3] u0 u0 (rec.2.1 x0 x1 x2 x3 x4 u0)) ∧ (∀ (x0 x1 x2 x3 x4 : Int) (u0 : zMem), zMd [1, 3] u0 u0 (rec.2.2 x0 x1 x2 x3 x4 u0))) : ∀ (x0 x1 x2 x3 : Int) (u0 : zMem), zMd [1, 3] u0 u0 (gX0_own_b0 rec x0 x1 x2 x3 u0) := by
  intro x0 x1 x2 x3 u0
  unfold gX0_own_b0
  refine md_gf (fun v1 => ?_)
  refine md_vc (mX0_kindOf x0 v1 u0) (by decide) (fun v2 u3 => ?_)
  refine md_vc (ih.2.1 x0 v2 x1 x2 x3 u3) (fun _ h => h) (fun v4 u5 => ?_)
  exact md_ret
theorem gX0_own_m1 (rec : (Int → Int → Int → Int → zMem → zRs) × (Int → Int → Int → Int → Int → zMem → zRs) × (Int → Int → Int → Int → Int → zMem → zRs)) (ih : (∀ (x0 x1 x2 x3 : Int) (u0 : zMem), zMd [1, 3] u0 u0 (rec.1 x0 x1 x2 x3 u0)) ∧ (∀ (x0 x1 x2 x3 x4 : Int) (u0 : zMem), zMd [1, 3] u0 u0 (rec.2.1 x0 x1 x2 x3 x4 u0)) ∧ (∀ (x0 x1 x2 x3 x4 : Int) (u0 : zMem), zMd [1, 3] u0 u0 (rec.2.2 x0 x1 x2 x3 x4 u0))) : ∀ (x0 x1 x2 x3 x4 : Int) (u0 : zMem), zMd [1, 3] u0 u0 (gX0_own_b1 rec x0 x1 x2 x3 x4 u0) := by
  intro x0 x1 x2 x3 x4 u0
  unfold gX0_own_b1
  refine zlp_ind (fun (f : Int → Int → zMem → zRs) => ∀ (v1 : Int) (v2 : Int) (u3 : zMem), zMd [1, 3] u0 u3 (f v1 v2 u3)) (fun _ _ _ => md_none) (fun k4 hk4 v1 v2 u3 => ?_) _ _ _ _
  refine md_if ?_ ?_
  ·
    exact md_ret
  ·
    refine md_call (mX0_isKind v1 u3) (by decide) (fun v5 u6 => ?_)
    refine md_if ?_ ?_
    ·
      exact md_ret
    ·
      refine md_ald (fun v7 => ?_)
      refine md_if ?_ ?_
      ·
        refine md_ald (fun v8 => ?_)
        exact hk4 _ _ _
      ·
        refine md_if ?_ ?_
        ·
          exact md_ret
        ·
          refine md_ald (fun v9 => ?_)
          refine md_vc (ih.2.2 x0 v7 v9 x3 (zw32 (x4 + 1)) u6) (fun _ h => h) (fun v10 u11 => ?_)
          exact md_ret
theorem gX0_own_m2 (rec : (Int → Int → Int → Int → zMem → zRs) × (Int → Int → Int → Int → Int → zMem → zRs) × (Int → Int → Int → Int → Int → zMem → zRs)) (ih : (∀ (x0 x1 x2 x3 : Int) (u0 : zMem), zMd [1, 3] u0 u0 (rec.1 x0 x1 x2 x3 u0)) ∧ (∀ (x0 x1 x2 x3 x4 : Int) (u0 : zMem), zMd [1, 3] u0 u0 (rec.2.1 x0 x1 x2 x3 x4 u0)) ∧ (∀ (x0 x1 x2 x3 x4 : Int) (u0 : zMem), zMd [1, 3] u0 u0 (rec.2.2 x0 x1 x2 x3 x4 u0))) : ∀ (x0 x1 x2 x3 x4 : Int) (u0 : zMem), zMd [1, 3] u0 u0 (gX0_own_b2 rec x0 x1 x2 x3 x4 u0) := by
  intro x0 x1 x2 x3 x4 u0
  unfold gX0_own_b2
  refine md_vc (mX0_note x0 x1 u0) (by decide) (fun _ u1 => ?_)
  refine md_if ?_ ?_
  ·
    refine md_gf (fun v3 => ?_)
    exact md_ret
  ·
    refine md_if ?_ ?_
    ·
      refine md_vc (ih.1 x0 1 x3 x4 u1) (fun _ h => h) (fun v5 u6 => ?_)
      refine md_vc (ih.1 x0 2 1 x4 u6) (fun _ h => h) (fun v7 u8 => ?_)
      exact md_ret
    ·
      refine md_if ?_ ?_
      ·
        refine md_vc (ih.1 x0 0 x3 x4 u1) (fun _ h => h) (fun v10 u11 => ?_)
        exact md_ret
      ·
        refine md_if ?_ ?_
        ·
          refine md_gf (fun v13 => ?_)
          exact md_ret
        ·
          refine md_if ?_ ?_
          ·
            refine md_vc (ih.2.1 x0 x2 0 x3 x4 u1) (fun _ h => h) (fun v15 u16 => ?_)
            exact md_ret
          ·
            refine md_if ?_ ?_
            ·
              refine md_vc (ih.2.1 x0 x2 1 x3 x4 u1) (fun _ h => h) (fun v18 u19 => ?_)
              exact md_ret
            ·
              refine md_if ?_ ?_
              ·
                refine md_vc (ih.2.1 x0 x2 2 x3 x4 u1) (fun _ h => h) (fun v21 u22 => ?_)
                exact md_ret
              ·
                refine md_if ?_ ?_
                ·
                  refine md_vc (ih.2.1 x0 x2 1 (zw32 (x3 + 1)) x4 u1) (fun _ h => h) (fun v24 u25 => ?_)
                  exact md_ret
                ·
                  refine md_if ?_ ?_
                  ·
                    refine md_vc (ih.2.1 x0 x2 3 x3 x4 u1) (fun _ h => h) (fun v27 u28 => ?_)
                    exact md_ret
                  ·
                    refine md_if ?_ ?_
                    ·
                      refine md_vc (ih.2.1 x0 x2 2 x3 x4 u1) (fun _ h => h) (fun v30 u31 => ?_)
                      refine md_vc (ih.1 x0 0 2 x4 u31) (fun _ h => h) (fun v32 u33 => ?_)
                      exact md_ret
                    ·
                      refine md_if ?_ ?_
                      ·
                        refine md_vc (ih.2.1 x0 x2 3 x3 x4 u1) (fun _ h => h) (fun v35 u36 => ?_)
                        exact md_ret
                      ·
                        refine md_if ?_ ?_
                        ·
                          refine md_vc (ih.2.1 x0 x2 0 x3 x4 u1) (fun _ h => h) (fun v38 u39 => ?_)
                          exact md_ret
                        ·
                          refine md_if ?_ ?_
                          ·
                            refine md_vc (ih.2.1 x0 x2 1 x3 x4 u1) (fun _ h => h) (fun v41 u42 => ?_)
                            refine md_vc (ih.1 x0 2 2 x4 u42) (fun _ h => h) (fun v43 u44 => ?_)
                            exact md_ret
                          ·
                            refine md_if ?_ ?_
                            ·
                              refine md_vc (ih.2.1 x0 x2 3 x3 x4 u1) (fun _ h => h) (fun v46 u47 => ?_)
                              exact md_ret
                            ·
                              exact md_ret
theorem gX0_own_mall : ∀ n : Nat, (∀ (x0 x1 x2 x3 : Int) (u0 : zMem), zMd [1, 3] u0 u0 ((gX0_own n).1 x0 x1 x2 x3 u0)) ∧ (∀ (x0 x1 x2 x3 x4 : Int) (u0 : zMem), zMd [1, 3] u0 u0 ((gX0_own n).2.1 x0 x1 x2 x3 x4 u0)) ∧ (∀ (x0 x1 x2 x3 x4 : Int) (u0 : zMem), zMd [1, 3] u0 u0 ((gX0_own n).2.2 x0 x1 x2 x3 x4 u0))
  | 0 => ⟨fun _ _ _ _ _ => md_none, fun _ _ _ _ _ _ => md_none, fun _ _ _ _ _ _ => md_none⟩
  | n + 1 => ⟨gX0_own_m0 (gX0_own n) (gX0_own_mall n), gX0_own_m1 (gX0_own n) (gX0_own_mall n), gX0_own_m2 (gX0_own n) (gX0_own_mall n)⟩
theorem mX0_own (x0 x1 x2 x3 : Int) (u0 : zMem) : zMd [1, 3] u0 u0 (fX0_own x0 x1 x2 x3 u0) := (gX0_own_mall 200).1 x0 x1 x2 x3 u0
theorem mX0_from (x0 x1 x2 x3 x4 : Int) (u0 : zMem) : zMd [1, 3] u0 u0 (fX0_from x0 x1 x2 x3 x4 u0) := (gX0_own_mall 200).2.1 x0 x1 x2 x3 x4 u0
theorem mX0_run (x0 x1 x2 x3 x4 : Int) (u0 : zMem) : zMd [1, 3] u0 u0 (fX0_run x0 x1 x2 x3 x4 u0) := (gX0_own_mall 200).2.2 x0 x1 x2 x3 x4 u0
theorem mX0_begin (x0 x1 x2 x3 : Int) (u0 : zMem) : zMd [1, 3, 4] u0 u0 (fX0_begin x0 x1 x2 x3 u0) := by
  unfold fX0_begin
  refine md_pf (by decide) (by decide) (by decide) (fun u1 => ?_)
  refine md_vc (mX0_has x0 x1 u1) (by decide) (fun v2 u3 => ?_)
  refine md_if ?_ ?_
  ·
    exact md_ret
  ·
    refine md_if ?_ ?_
    ·
      exact md_ret
    ·
      refine md_if ?_ ?_
      ·
        refine md_pf (by decide) (by decide) (by decide) (fun u4 => ?_)
        refine md_vc (mX0_own x0 x2 x3 0 u4) (by decide) (fun v5 u6 => ?_)
        exact md_ret
      ·
        exact md_ret
theorem mX1_size (x0 : Int) (u0 : zMem) : zMd [] u0 u0 (fX1_size x0 u0) := by
  unfold fX1_size
  refine md_gf (fun v1 => ?_)
  exact md_ret
theorem mX6_begin (x0 x1 : Int) (u0 : zMem) : zMd [601, 602] u0 u0 (fX6_begin x0 x1 u0) := by
  unfold fX6_begin
  refine md_pf (by decide) (by decide) (by decide) (fun u1 => ?_)
  refine md_pf (by decide) (by decide) (by decide) (fun u2 => ?_)
  exact md_ret
theorem mX1_open (x0 x1 : Int) (u0 : zMem) : zMd [103, 601, 602] u0 u0 (fX1_open x0 x1 u0) := by
  unfold fX1_open
  refine md_gf (fun v1 => ?_)
  refine md_if ?_ ?_
  ·
    refine md_gf (fun v2 => ?_)
    refine md_gf (fun v3 => ?_)
    refine md_ald (fun v4 => ?_)
    refine md_vc (mX6_begin v4 x1 u0) (by decide) (fun _ u5 => ?_)
    refine md_gf (fun v6 => ?_)
    refine md_pf (by decide) (by decide) (by decide) (fun u7 => ?_)
    refine md_gf (fun v8 => ?_)
    exact md_ret
  ·
    exact md_ret
theorem mX1_paper (x0 x1 : Int) (u0 : zMem) : zMd [] u0 u0 (fX1_paper x0 x1 u0) := by
  unfold fX1_paper
  refine md_jn (P := fun (f : zMem → zRs) => ∀ (u1 : zMem), zMd [] u0 u1 (f u1)) (fun u1 => ?_) (fun k2 hk2 => ?_)
  ·
    exact md_ret
  ·
    refine md_if ?_ ?_
    ·
      exact hk2 _
    ·
      refine md_gf (fun v3 => ?_)
      refine md_if ?_ ?_
      ·
        exact hk2 _
      ·
        refine md_gf (fun v4 => ?_)
        refine md_ald (fun v5 => ?_)
        exact md_ret
theorem mX6_placeOf (x0 x1 : Int) (u0 : zMem) : zMd [] u0 u0 (fX6_placeOf x0 x1 u0) := by
  unfold fX6_placeOf
  refine zlp_ind (fun (f : Int → zMem → zRs) => ∀ (v1 : Int) (u2 : zMem), zMd [] u0 u2 (f v1 u2)) (fun _ _ => md_none) (fun k3 hk3 v1 u2 => ?_) _ _ _
  refine md_gf (fun v4 => ?_)
  refine md_if ?_ ?_
  ·
    exact md_ret
  ·
    refine md_gfA (by decide +kernel) (by decide) (fun v5 ov5 => ?_)
    refine md_aldR ov5 (fun v6 ov6 => ?_)
    refine md_ald (fun v7 => ?_)
    refine md_if ?_ ?_
    ·
      exact hk3 _ _
    ·
      exact md_ret
theorem mX1_papersWith_ (x0 x1 x2 : Int) (u0 : zMem) : zMd [] u0 u0 (fX1_papersWith_ x0 x1 x2 u0) := by
  unfold fX1_papersWith_
  refine zlp_ind (fun (f : Int → Int → zMem → zRs) => ∀ (v1 : Int) (v2 : Int) (u3 : zMem), zMd [] u0 u3 (f v1 v2 u3)) (fun _ _ _ => md_none) (fun k4 hk4 v1 v2 u3 => ?_) _ _ _ _
  refine md_gf (fun v5 => ?_)
  refine md_if ?_ ?_
  ·
    exact md_ret
  ·
    refine md_jn (P := fun (f : Int → zMem → zRs) => ∀ (v6 : Int) (u7 : zMem), zMd [] u0 u7 (f v6 u7)) (fun v6 u7 => ?_) (fun k8 hk8 => ?_)
    ·
      exact hk4 _ _ _
    ·
      refine md_if ?_ ?_
      ·
        exact hk8 _ _
      ·
        refine md_gf (fun v9 => ?_)
        refine md_ald (fun v10 => ?_)
        refine md_vc (mX6_placeOf v10 x1 u3) (by decide) (fun v11 u12 => ?_)
        refine md_if ?_ ?_
        ·
          exact hk8 _ _
        ·
          exact hk8 _ _
theorem mX1_papersWith (x0 x1 : Int) (u0 : zMem) : zMd [] u0 u0 (fX1_papersWith x0 x1 u0) := by
  unfold fX1_papersWith
  refine md_gf (fun v1 => ?_)
  refine md_vc (mX1_papersWith_ x0 x1 (zw32 ((zshl 1 v1) - 1)) u0) (by decide) (fun v2 u3 => ?_)
  exact md_ret
theorem mX6_by (x0 : Int) (u0 : zMem) : zMd [] u0 u0 (fX6_by x0 u0) := by
  unfold fX6_by
  refine md_gf (fun v1 => ?_)
  exact md_ret
theorem mJ6_bitCount_0f7a4 (x0 : Int) (u0 : zMem) : zMd [] u0 u0 (fJ6_bitCount_0f7a4 x0 u0) := by
  unfold fJ6_bitCount_0f7a4
  exact md_ret
theorem mX1_writersWith (x0 x1 : Int) (u0 : zMem) : zMd [] u0 u0 (fX1_writersWith x0 x1 u0) := by
  unfold fX1_writersWith
  refine zlp_ind (fun (f : Int → Int → zMem → zRs) => ∀ (v1 : Int) (v2 : Int) (u3 : zMem), zMd [] u0 u3 (f v1 v2 u3)) (fun _ _ _ => md_none) (fun k4 hk4 v1 v2 u3 => ?_) _ _ _ _
  refine md_gf (fun v5 => ?_)
  refine md_if ?_ ?_
  ·
    refine md_call (mJ6_bitCount_0f7a4 v1 u3) (by decide) (fun v6 u7 => ?_)
    exact md_ret
  ·
    refine md_gf (fun v8 => ?_)
    refine md_ald (fun v9 => ?_)
    refine md_vc (mX6_by v9 u3) (by decide) (fun v10 u11 => ?_)
    refine md_jn (P := fun (f : Int → zMem → zRs) => ∀ (v12 : Int) (u13 : zMem), zMd [] u0 u13 (f v12 u13)) (fun v12 u13 => ?_) (fun k14 hk14 => ?_)
    ·
      exact hk4 _ _ _
    ·
      refine md_if ?_ ?_
      ·
        exact hk14 _ _
      ·
        refine md_gf (fun v15 => ?_)
        refine md_ald (fun v16 => ?_)
        refine md_vc (mX6_placeOf v16 x1 u11) (by decide) (fun v17 u18 => ?_)
        refine md_if ?_ ?_
        ·
          exact hk14 _ _
        ·
          refine md_gf (fun v19 => ?_)
          refine md_ald (fun v20 => ?_)
          refine md_vc (mX6_by v20 u18) (by decide) (fun v21 u22 => ?_)
          exact hk14 _ _
theorem mX5_size (x0 : Int) (u0 : zMem) : zMd [] u0 u0 (fX5_size x0 u0) := by
  unfold fX5_size
  refine md_gf (fun v1 => ?_)
  exact md_ret
theorem mX1_onlyOnce (x0 : Int) (u0 : zMem) : zMd [] u0 u0 (fX1_onlyOnce x0 u0) := by
  unfold fX1_onlyOnce
  refine zlp_ind (fun (f : Int → Int → zMem → zRs) => ∀ (v1 : Int) (v2 : Int) (u3 : zMem), zMd [] u0 u3 (f v1 v2 u3)) (fun _ _ _ => md_none) (fun k4 hk4 v1 v2 u3 => ?_) _ _ _ _
  refine md_gf (fun v5 => ?_)
  refine md_vc (mX5_size v5 u3) (by decide) (fun v6 u7 => ?_)
  refine md_if ?_ ?_
  ·
    exact md_ret
  ·
    refine md_vc (mX1_papersWith x0 v2 u7) (by decide) (fun v8 u9 => ?_)
    refine md_jn (P := fun (f : Int → zMem → zRs) => ∀ (v10 : Int) (u11 : zMem), zMd [] u0 u11 (f v10 u11)) (fun v10 u11 => ?_) (fun k12 hk12 => ?_)
    ·
      exact hk4 _ _ _
    ·
      refine md_if ?_ ?_
      ·
        exact hk12 _ _
      ·
        exact hk12 _ _
theorem mX1_isFight (x0 x1 x2 x3 : Int) (u0 : zMem) : zMd [] u0 u0 (fX1_isFight x0 x1 x2 x3 u0) := by
  unfold fX1_isFight
  refine md_vc (mX6_placeOf x0 x2 u0) (by decide) (fun v1 u2 => ?_)
  refine md_vc (mX6_placeOf x1 x2 u2) (by decide) (fun v3 u4 => ?_)
  refine md_vc (mX6_placeOf x0 x3 u4) (by decide) (fun v5 u6 => ?_)
  refine md_vc (mX6_placeOf x1 x3 u6) (by decide) (fun v7 u8 => ?_)
  refine md_if ?_ ?_
  ·
    exact md_bl md_ret
  ·
    refine md_if ?_ ?_
    ·
      exact md_bl md_ret
    ·
      refine md_if ?_ ?_
      ·
        exact md_bl md_ret
      ·
        refine md_if ?_ ?_
        ·
          refine md_jn (P := fun (f : Int → zMem → zRs) => ∀ (v9 : Int) (u10 : zMem), zMd [] u0 u10 (f v9 u10)) (fun v9 u10 => ?_) (fun k11 hk11 => ?_)
          ·
            refine md_jn (P := fun (f : Int → zMem → zRs) => ∀ (v12 : Int) (u13 : zMem), zMd [] u0 u13 (f v12 u13)) (fun v12 u13 => ?_) (fun k14 hk14 => ?_)
            ·
              refine md_if ?_ ?_
              ·
                exact md_bl md_ret
              ·
                exact md_bl md_ret
            ·
              refine md_if ?_ ?_
              ·
                exact hk14 _ _
              ·
                exact hk14 _ _
          ·
            refine md_if ?_ ?_
            ·
              exact hk11 _ _
            ·
              exact hk11 _ _
        ·
          exact md_bl md_ret
theorem mX1_fightsOf (x0 x1 x2 : Int) (u0 : zMem) : zMd [] u0 u0 (fX1_fightsOf x0 x1 x2 u0) := by
  unfold fX1_fightsOf
  refine zlp_ind (fun (f : Int → Int → zMem → zRs) => ∀ (v1 : Int) (v2 : Int) (u3 : zMem), zMd [] u0 u3 (f v1 v2 u3)) (fun _ _ _ => md_none) (fun k4 hk4 v1 v2 u3 => ?_) _ _ _ _
  refine md_gf (fun v5 => ?_)
  refine md_vc (mX5_size v5 u3) (by decide) (fun v6 u7 => ?_)
  refine md_if ?_ ?_
  ·
    exact md_ret
  ·
    refine zlp_ind (fun (f : Int → Int → zMem → zRs) => ∀ (v8 : Int) (v9 : Int) (u10 : zMem), zMd [] u0 u10 (f v8 v9 u10)) (fun _ _ _ => md_none) (fun k11 hk11 v8 v9 u10 => ?_) _ _ _ _
    refine md_gf (fun v12 => ?_)
    refine md_vc (mX5_size v12 u10) (by decide) (fun v13 u14 => ?_)
    refine md_if ?_ ?_
    ·
      exact hk4 _ _ _
    ·
      refine md_call (mX1_isFight x1 x2 v2 v9 u14) (by decide) (fun v15 u16 => ?_)
      refine md_jn (P := fun (f : Int → zMem → zRs) => ∀ (v17 : Int) (u18 : zMem), zMd [] u0 u18 (f v17 u18)) (fun v17 u18 => ?_) (fun k19 hk19 => ?_)
      ·
        exact hk11 _ _ _
      ·
        refine md_if ?_ ?_
        ·
          exact hk19 _ _
        ·
          exact hk19 _ _
theorem mX1_firstFight (x0 x1 x2 : Int) (u0 : zMem) : zMd [] u0 u0 (fX1_firstFight x0 x1 x2 u0) := by
  unfold fX1_firstFight
  refine zlp_ind (fun (f : Int → zMem → zRs) => ∀ (v1 : Int) (u2 : zMem), zMd [] u0 u2 (f v1 u2)) (fun _ _ => md_none) (fun k3 hk3 v1 u2 => ?_) _ _ _
  refine md_gf (fun v4 => ?_)
  refine md_vc (mX5_size v4 u2) (by decide) (fun v5 u6 => ?_)
  refine md_if ?_ ?_
  ·
    exact md_ret
  ·
    refine zlp_ind (fun (f : Int → zMem → zRs) => ∀ (v7 : Int) (u8 : zMem), zMd [] u0 u8 (f v7 u8)) (fun _ _ => md_none) (fun k9 hk9 v7 u8 => ?_) _ _ _
    refine md_gf (fun v10 => ?_)
    refine md_vc (mX5_size v10 u8) (by decide) (fun v11 u12 => ?_)
    refine md_if ?_ ?_
    ·
      exact hk3 _ _
    ·
      refine md_call (mX1_isFight x1 x2 v1 v7 u12) (by decide) (fun v13 u14 => ?_)
      refine md_if ?_ ?_
      ·
        exact hk9 _ _
      ·
        exact md_ret
theorem mX6_bits (x0 : Int) (u0 : zMem) : zMd [] u0 u0 (fX6_bits x0 u0) := by
  unfold fX6_bits
  refine zlp_ind (fun (f : Int → Int → zMem → zRs) => ∀ (v1 : Int) (v2 : Int) (u3 : zMem), zMd [] u0 u3 (f v1 v2 u3)) (fun _ _ _ => md_none) (fun k4 hk4 v1 v2 u3 => ?_) _ _ _ _
  refine md_gf (fun v5 => ?_)
  refine md_if ?_ ?_
  ·
    exact md_ret
  ·
    refine md_gfA (by decide +kernel) (by decide) (fun v6 ov6 => ?_)
    refine md_aldR ov6 (fun v7 ov7 => ?_)
    refine md_ald (fun v8 => ?_)
    exact hk4 _ _ _
theorem mX6_size (x0 : Int) (u0 : zMem) : zMd [] u0 u0 (fX6_size x0 u0) := by
  unfold fX6_size
  refine md_gf (fun v1 => ?_)
  exact md_ret
theorem mX6_hasPlace (x0 x1 : Int) (u0 : zMem) : zMd [] u0 u0 (fX6_hasPlace x0 x1 u0) := by
  unfold fX6_hasPlace
  refine md_jn (P := fun (f : zMem → zRs) => ∀ (u1 : zMem), zMd [] u0 u1 (f u1)) (fun u1 => ?_) (fun k2 hk2 => ?_)
  ·
    exact md_bl md_ret
  ·
    refine md_if ?_ ?_
    ·
      exact hk2 _
    ·
      refine md_gf (fun v3 => ?_)
      refine md_if ?_ ?_
      ·
        exact hk2 _
      ·
        exact md_bl md_ret
theorem mX6_part (x0 x1 x2 : Int) (u0 : zMem) : zMd [] u0 u0 (fX6_part x0 x1 x2 u0) := by
  unfold fX6_part
  refine md_vc (mX6_hasPlace x0 x1 u0) (by decide) (fun v1 u2 => ?_)
  refine md_jn (P := fun (f : zMem → zRs) => ∀ (u3 : zMem), zMd [] u0 u3 (f u3)) (fun u3 => ?_) (fun k4 hk4 => ?_)
  ·
    exact md_ret
  ·
    refine md_if ?_ ?_
    ·
      exact hk4 _
    ·
      refine md_if ?_ ?_
      ·
        exact hk4 _
      ·
        refine md_if ?_ ?_
        ·
          exact hk4 _
        ·
          refine md_gfA (by decide +kernel) (by decide) (fun v5 ov5 => ?_)
          refine md_aldR ov5 (fun v6 ov6 => ?_)
          refine md_ald (fun v7 => ?_)
          exact md_ret
theorem mX1_countLead (x0 x1 x2 : Int) (u0 : zMem) : zMd [102] u0 u0 (fX1_countLead x0 x1 x2 u0) := by
  unfold fX1_countLead
  refine md_if ?_ ?_
  ·
    exact md_ret
  ·
    refine md_if ?_ ?_
    ·
      exact md_ret
    ·
      refine md_if ?_ ?_
      ·
        exact md_ret
      ·
        refine md_if ?_ ?_
        ·
          exact md_ret
        ·
          refine md_gfA (by decide +kernel) (by decide) (fun v1 ov1 => ?_)
          refine md_aldR ov1 (fun v2 ov2 => ?_)
          refine md_ald (fun v3 => ?_)
          refine md_ast ov2 (by decide) (by decide) (fun u4 => ?_)
          refine md_gfA (by decide +kernel) (by decide) (fun v5 ov5 => ?_)
          refine md_aldR ov5 (fun v6 ov6 => ?_)
          refine md_ald (fun v7 => ?_)
          refine md_ast ov6 (by decide) (by decide) (fun u8 => ?_)
          exact md_ret
theorem mX1_countLeadsOf (x0 x1 : Int) (u0 : zMem) : zMd [102] u0 u0 (fX1_countLeadsOf x0 x1 u0) := by
  unfold fX1_countLeadsOf
  refine zlp_ind (fun (f : Int → zMem → zRs) => ∀ (v1 : Int) (u2 : zMem), zMd [102] u0 u2 (f v1 u2)) (fun _ _ => md_none) (fun k3 hk3 v1 u2 => ?_) _ _ _
  refine md_vc (mX6_size x1 u2) (by decide) (fun v4 u5 => ?_)
  refine md_if ?_ ?_
  ·
    exact md_ret
  ·
    refine zlp_ind (fun (f : Int → zMem → zRs) => ∀ (v6 : Int) (u7 : zMem), zMd [102] u0 u7 (f v6 u7)) (fun _ _ => md_none) (fun k8 hk8 v6 u7 => ?_) _ _ _
    refine md_vc (mX6_size x1 u7) (by decide) (fun v9 u10 => ?_)
    refine md_if ?_ ?_
    ·
      exact hk3 _ _
    ·
      refine md_vc (mX6_part x1 v1 0 u10) (by decide) (fun v11 u12 => ?_)
      refine md_vc (mX6_part x1 v6 0 u12) (by decide) (fun v13 u14 => ?_)
      refine md_vc (mX1_countLead x0 v11 v13 u14) (by decide) (fun _ u15 => ?_)
      exact hk8 _ _
theorem mX1_countLeads (x0 : Int) (u0 : zMem) : zMd [102] u0 u0 (fX1_countLeads x0 u0) := by
  unfold fX1_countLeads
  refine md_gfA (by decide +kernel) (by decide) (fun v1 ov1 => ?_)
  refine md_len (fun v2 => ?_)
  refine zlp_ind (fun (f : Int → zMem → zRs) => ∀ (v3 : Int) (u4 : zMem), zMd [102] u0 u4 (f v3 u4)) (fun _ _ => md_none) (fun k5 hk5 v3 u4 => ?_) _ _ _
  refine md_if ?_ ?_
  ·
    refine zlp_ind (fun (f : Int → zMem → zRs) => ∀ (v6 : Int) (u7 : zMem), zMd [102] u0 u7 (f v6 u7)) (fun _ _ => md_none) (fun k8 hk8 v6 u7 => ?_) _ _ _
    refine md_gf (fun v9 => ?_)
    refine md_if ?_ ?_
    ·
      exact md_ret
    ·
      refine md_gf (fun v10 => ?_)
      refine md_ald (fun v11 => ?_)
      refine md_vc (mX1_countLeadsOf x0 v11 u7) (by decide) (fun _ u12 => ?_)
      exact hk8 _ _
  ·
    refine md_aldR ov1 (fun v13 ov13 => ?_)
    refine zlp_ind (fun (f : Int → zMem → zRs) => ∀ (v14 : Int) (u15 : zMem), zMd [102] u0 u15 (f v14 u15)) (fun _ _ => md_none) (fun k16 hk16 v14 u15 => ?_) _ _ _
    refine md_len (fun v17 => ?_)
    refine md_if ?_ ?_
    ·
      exact hk5 _ _
    ·
      refine md_ast ov13 (by decide) (by decide) (fun u18 => ?_)
      exact hk16 _ _
theorem mX1_beatenBy (x0 x1 x2 : Int) (u0 : zMem) : zMd [] u0 u0 (fX1_beatenBy x0 x1 x2 u0) := by
  unfold fX1_beatenBy
  refine zlp_ind (fun (f : Int → Int → zMem → zRs) => ∀ (v1 : Int) (v2 : Int) (u3 : zMem), zMd [] u0 u3 (f v1 v2 u3)) (fun _ _ _ => md_none) (fun k4 hk4 v1 v2 u3 => ?_) _ _ _ _
  refine md_if ?_ ?_
  ·
    exact md_ret
  ·
    refine md_jn (P := fun (f : Int → zMem → zRs) => ∀ (v5 : Int) (u6 : zMem), zMd [] u0 u6 (f v5 u6)) (fun v5 u6 => ?_) (fun k7 hk7 => ?_)
    ·
      exact hk4 _ _ _
    ·
      refine md_if ?_ ?_
      ·
        exact hk7 _ _
      ·
        refine md_gfA (by decide +kernel) (by decide) (fun v8 ov8 => ?_)
        refine md_aldR ov8 (fun v9 ov9 => ?_)
        refine md_ald (fun v10 => ?_)
        refine md_if ?_ ?_
        ·
          exact hk7 _ _
        ·
          exact hk7 _ _
theorem mX1_foremost (x0 x1 : Int) (u0 : zMem) : zMd [] u0 u0 (fX1_foremost x0 x1 u0) := by
  unfold fX1_foremost
  refine zlp_ind (fun (f : Int → Int → Int → zMem → zRs) => ∀ (v1 : Int) (v2 : Int) (v3 : Int) (u4 : zMem), zMd [] u0 u4 (f v1 v2 v3 u4)) (fun _ _ _ _ => md_none) (fun k5 hk5 v1 v2 v3 u4 => ?_) _ _ _ _ _
  refine md_if ?_ ?_
  ·
    exact md_ret
  ·
    refine md_jn (P := fun (f : Int → zMem → zRs) => ∀ (v6 : Int) (u7 : zMem), zMd [] u0 u7 (f v6 u7)) (fun v6 u7 => ?_) (fun k8 hk8 => ?_)
    ·
      refine md_jn (P := fun (f : Int → Int → zMem → zRs) => ∀ (v9 : Int) (v10 : Int) (u11 : zMem), zMd [] u0 u11 (f v9 v10 u11)) (fun v9 v10 u11 => ?_) (fun k12 hk12 => ?_)
      ·
        exact hk5 _ _ _ _
      ·
        refine md_if ?_ ?_
        ·
          exact hk12 _ _ _
        ·
          exact hk12 _ _ _
    ·
      refine md_if ?_ ?_
      ·
        exact hk8 _ _
      ·
        refine md_vc (mX1_beatenBy x0 v3 x1 u4) (by decide) (fun v13 u14 => ?_)
        exact hk8 _ _
theorem mX1_inOrder (x0 x1 : Int) (u0 : zMem) : zMd [102] u0 u0 (fX1_inOrder x0 x1 u0) := by
  unfold fX1_inOrder
  refine zlp_ind (fun (f : Int → Int → zMem → zRs) => ∀ (v1 : Int) (v2 : Int) (u3 : zMem), zMd [102] u0 u3 (f v1 v2 u3)) (fun _ _ _ => md_none) (fun k4 hk4 v1 v2 u3 => ?_) _ _ _ _
  refine md_gf (fun v5 => ?_)
  refine md_if ?_ ?_
  ·
    refine md_if ?_ ?_
    ·
      exact md_ret
    ·
      refine md_call (mJ6_bitCount_0f7a4 v1 u3) (by decide) (fun v6 u7 => ?_)
      refine md_if ?_ ?_
      ·
        refine md_vc (mX1_countLeads x0 u7) (by decide) (fun _ u8 => ?_)
        refine zlp_ind (fun (f : Int → Int → zMem → zRs) => ∀ (v9 : Int) (v10 : Int) (u11 : zMem), zMd [102] u0 u11 (f v9 v10 u11)) (fun _ _ _ => md_none) (fun k12 hk12 v9 v10 u11 => ?_) _ _ _ _
        refine md_if ?_ ?_
        ·
          refine md_vc (mX1_foremost x0 v9 u11) (by decide) (fun v13 u14 => ?_)
          exact md_ret
        ·
          refine md_vc (mX1_foremost x0 v9 u11) (by decide) (fun v15 u16 => ?_)
          exact hk12 _ _ _
      ·
        exact md_ret
  ·
    refine md_gf (fun v17 => ?_)
    refine md_ald (fun v18 => ?_)
    refine md_vc (mX6_bits v18 u3) (by decide) (fun v19 u20 => ?_)
    exact hk4 _ _ _
theorem mX3_has (x0 x1 : Int) (u0 : zMem) : zMd [] u0 u0 (fX3_has x0 x1 u0) := by
  unfold fX3_has
  refine md_jn (P := fun (f : zMem → zRs) => ∀ (u1 : zMem), zMd [] u0 u1 (f u1)) (fun u1 => ?_) (fun k2 hk2 => ?_)
  ·
    exact md_bl md_ret
  ·
    refine md_if ?_ ?_
    ·
      exact hk2 _
    ·
      refine md_gf (fun v3 => ?_)
      refine md_if ?_ ?_
      ·
        exact hk2 _
      ·
        exact md_bl md_ret
theorem mX5_part (x0 x1 x2 : Int) (u0 : zMem) : zMd [] u0 u0 (fX5_part x0 x1 x2 u0) := by
  unfold fX5_part
  refine md_jn (P := fun (f : zMem → zRs) => ∀ (u1 : zMem), zMd [] u0 u1 (f u1)) (fun u1 => ?_) (fun k2 hk2 => ?_)
  ·
    exact md_ret
  ·
    refine md_if ?_ ?_
    ·
      exact hk2 _
    ·
      refine md_gf (fun v3 => ?_)
      refine md_if ?_ ?_
      ·
        exact hk2 _
      ·
        refine md_if ?_ ?_
        ·
          exact hk2 _
        ·
          refine md_if ?_ ?_
          ·
            exact hk2 _
          ·
            refine md_gfA (by decide +kernel) (by decide) (fun v4 ov4 => ?_)
            refine md_aldR ov4 (fun v5 ov5 => ?_)
            refine md_ald (fun v6 => ?_)
            exact md_ret
theorem mX5_minute (x0 x1 : Int) (u0 : zMem) : zMd [] u0 u0 (fX5_minute x0 x1 u0) := by
  unfold fX5_minute
  refine zlp_ind (fun (f : Int → Int → zMem → zRs) => ∀ (v1 : Int) (v2 : Int) (u3 : zMem), zMd [] u0 u3 (f v1 v2 u3)) (fun _ _ _ => md_none) (fun k4 hk4 v1 v2 u3 => ?_) _ _ _ _
  refine md_if ?_ ?_
  ·
    exact md_ret
  ·
    refine md_gf (fun v5 => ?_)
    refine md_if ?_ ?_
    ·
      exact md_ret
    ·
      refine md_gfA (by decide +kernel) (by decide) (fun v6 ov6 => ?_)
      refine md_aldR ov6 (fun v7 ov7 => ?_)
      refine md_ald (fun v8 => ?_)
      exact hk4 _ _ _
theorem mX4_isSelf (x0 x1 : Int) (u0 : zMem) : zMd [] u0 u0 (fX4_isSelf x0 x1 u0) := by
  unfold fX4_isSelf
  refine md_gf (fun v1 => ?_)
  refine md_if ?_ ?_
  ·
    exact md_bl md_ret
  ·
    exact md_bl md_ret
theorem mX5_aheadOnSame (x0 x1 : Int) (u0 : zMem) : zMd [] u0 u0 (fX5_aheadOnSame x0 x1 u0) := by
  unfold fX5_aheadOnSame
  refine zlp_ind (fun (f : Int → Int → zMem → zRs) => ∀ (v1 : Int) (v2 : Int) (u3 : zMem), zMd [] u0 u3 (f v1 v2 u3)) (fun _ _ _ => md_none) (fun k4 hk4 v1 v2 u3 => ?_) _ _ _ _
  refine md_if ?_ ?_
  ·
    exact md_ret
  ·
    refine md_gf (fun v5 => ?_)
    refine md_if ?_ ?_
    ·
      exact md_ret
    ·
      refine md_gfA (by decide +kernel) (by decide) (fun v6 ov6 => ?_)
      refine md_aldR ov6 (fun v7 ov7 => ?_)
      refine md_ald (fun v8 => ?_)
      refine md_gfA (by decide +kernel) (by decide) (fun v9 ov9 => ?_)
      refine md_aldR ov9 (fun v10 ov10 => ?_)
      refine md_ald (fun v11 => ?_)
      refine md_jn (P := fun (f : Int → zMem → zRs) => ∀ (v12 : Int) (u13 : zMem), zMd [] u0 u13 (f v12 u13)) (fun v12 u13 => ?_) (fun k14 hk14 => ?_)
      ·
        exact hk4 _ _ _
      ·
        refine md_if ?_ ?_
        ·
          exact hk14 _ _
        ·
          exact hk14 _ _
theorem mX7_name (x0 x1 x2 : Int) (u0 : zMem) : zMd [701] u0 u0 (fX7_name x0 x1 x2 u0) := by
  unfold fX7_name
  refine md_gfA (by decide +kernel) (by decide) (fun v1 ov1 => ?_)
  refine md_gf (fun v2 => ?_)
  refine md_vc (mX5_part v2 x2 0 u0) (by decide) (fun v3 u4 => ?_)
  refine md_ast ov1 (by decide) (by decide) (fun u5 => ?_)
  refine md_gfA (by decide +kernel) (by decide) (fun v6 ov6 => ?_)
  refine md_gf (fun v7 => ?_)
  refine md_vc (mX5_part v7 x2 1 u5) (by decide) (fun v8 u9 => ?_)
  refine md_ast ov6 (by decide) (by decide) (fun u10 => ?_)
  refine md_gfA (by decide +kernel) (by decide) (fun v11 ov11 => ?_)
  refine md_gf (fun v12 => ?_)
  refine md_vc (mX5_part v12 x2 2 u10) (by decide) (fun v13 u14 => ?_)
  refine md_ast ov11 (by decide) (by decide) (fun u15 => ?_)
  refine md_gfA (by decide +kernel) (by decide) (fun v16 ov16 => ?_)
  refine md_gf (fun v17 => ?_)
  refine md_vc (mX5_part v17 x2 3 u15) (by decide) (fun v18 u19 => ?_)
  refine md_ast ov16 (by decide) (by decide) (fun u20 => ?_)
  refine md_gfA (by decide +kernel) (by decide) (fun v21 ov21 => ?_)
  refine md_ast ov21 (by decide) (by decide) (fun u22 => ?_)
  refine md_gfA (by decide +kernel) (by decide) (fun v23 ov23 => ?_)
  refine md_gf (fun v24 => ?_)
  refine md_vc (mX5_minute v24 x2 u22) (by decide) (fun v25 u26 => ?_)
  refine md_ast ov23 (by decide) (by decide) (fun u27 => ?_)
  refine md_gfA (by decide +kernel) (by decide) (fun v28 ov28 => ?_)
  refine md_gfA (by decide +kernel) (by decide) (fun v29 ov29 => ?_)
  refine md_ald (fun v30 => ?_)
  refine md_vc (mX4_isSelf x1 v30 u27) (by decide) (fun v31 u32 => ?_)
  refine md_jn (P := fun (f : Int → zMem → zRs) => ∀ (v33 : Int) (u34 : zMem), zMd [701] u0 u34 (f v33 u34)) (fun v33 u34 => ?_) (fun k35 hk35 => ?_)
  ·
    refine md_ast ov28 (by decide) (by decide) (fun u36 => ?_)
    refine md_gfA (by decide +kernel) (by decide) (fun v37 ov37 => ?_)
    refine md_gf (fun v38 => ?_)
    refine md_vc (mX5_aheadOnSame v38 x2 u36) (by decide) (fun v39 u40 => ?_)
    refine md_ast ov37 (by decide) (by decide) (fun u41 => ?_)
    exact md_ret
  ·
    refine md_if ?_ ?_
    ·
      exact hk35 _ _
    ·
      exact hk35 _ _
theorem mX4_size (x0 : Int) (u0 : zMem) : zMd [] u0 u0 (fX4_size x0 u0) := by
  unfold fX4_size
  refine md_gf (fun v1 => ?_)
  exact md_ret
theorem mX4_codeAt (x0 x1 : Int) (u0 : zMem) : zMd [] u0 u0 (fX4_codeAt x0 x1 u0) := by
  unfold fX4_codeAt
  refine md_jn (P := fun (f : zMem → zRs) => ∀ (u1 : zMem), zMd [] u0 u1 (f u1)) (fun u1 => ?_) (fun k2 hk2 => ?_)
  ·
    exact md_ret
  ·
    refine md_if ?_ ?_
    ·
      exact hk2 _
    ·
      refine md_gf (fun v3 => ?_)
      refine md_if ?_ ?_
      ·
        exact hk2 _
      ·
        refine md_gfA (by decide +kernel) (by decide) (fun v4 ov4 => ?_)
        refine md_ald (fun v5 => ?_)
        exact md_ret
theorem mX7_pop (x0 : Int) (u0 : zMem) : zMd [703] u0 u0 (fX7_pop x0 u0) := by
  unfold fX7_pop
  refine md_gf (fun v1 => ?_)
  refine md_if ?_ ?_
  ·
    refine md_gf (fun v2 => ?_)
    refine md_pf (by decide) (by decide) (by decide) (fun u3 => ?_)
    refine md_gfA (by decide +kernel) (by decide) (fun v4 ov4 => ?_)
    refine md_gf (fun v5 => ?_)
    refine md_ald (fun v6 => ?_)
    exact md_ret
  ·
    exact md_ret
theorem mX9_nameOf (x0 : Int) (u0 : zMem) : zMd [] u0 u0 (fX9_nameOf x0 u0) := by
  unfold fX9_nameOf
  refine md_if ?_ ?_
  ·
    exact md_ret
  ·
    refine md_if ?_ ?_
    ·
      exact md_ret
    ·
      refine md_if ?_ ?_
      ·
        exact md_ret
      ·
        refine md_if ?_ ?_
        ·
          exact md_ret
        ·
          refine md_if ?_ ?_
          ·
            exact md_ret
          ·
            refine md_if ?_ ?_
            ·
              exact md_ret
            ·
              refine md_if ?_ ?_
              ·
                exact md_ret
              ·
                refine md_if ?_ ?_
                ·
                  exact md_ret
                ·
                  refine md_if ?_ ?_
                  ·
                    exact md_ret
                  ·
                    refine md_if ?_ ?_
                    ·
                      exact md_ret
                    ·
                      refine md_if ?_ ?_
                      ·
                        exact md_ret
                      ·
                        refine md_if ?_ ?_
                        ·
                          exact md_ret
                        ·
                          refine md_if ?_ ?_
                          ·
                            exact md_ret
                          ·
                            refine md_if ?_ ?_
                            ·
                              exact md_ret
                            ·
                              refine md_if ?_ ?_
                              ·
                                exact md_ret
                              ·
                                exact md_ret
theorem mX7_joint (x0 x1 x2 : Int) (u0 : zMem) : zMd [] u0 u0 (fX7_joint x0 x1 x2 u0) := by
  unfold fX7_joint
  refine md_if ?_ ?_
  ·
    refine md_if ?_ ?_
    ·
      refine md_nz ?_
      exact md_ret
    ·
      exact md_ret
  ·
    refine md_if ?_ ?_
    ·
      refine md_jn (P := fun (f : zMem → zRs) => ∀ (u3 : zMem), zMd [] u0 u3 (f u3)) (fun u3 => ?_) (fun k4 hk4 => ?_)
      ·
        exact md_ret
      ·
        refine md_if ?_ ?_
        ·
          exact hk4 _
        ·
          refine md_if ?_ ?_
          ·
            exact hk4 _
          ·
            exact md_ret
    ·
      refine md_if ?_ ?_
      ·
        exact md_ret
      ·
        refine md_if ?_ ?_
        ·
          exact md_ret
        ·
          refine md_if ?_ ?_
          ·
            exact md_ret
          ·
            refine md_if ?_ ?_
            ·
              refine md_if ?_ ?_
              ·
                refine md_nz ?_
                exact md_ret
              ·
                exact md_ret
            ·
              refine md_if ?_ ?_
              ·
                refine md_if ?_ ?_
                ·
                  exact md_ret
                ·
                  exact md_ret
              ·
                refine md_if ?_ ?_
                ·
                  refine md_if ?_ ?_
                  ·
                    exact md_ret
                  ·
                    exact md_ret
                ·
                  refine md_if ?_ ?_
                  ·
                    refine md_if ?_ ?_
                    ·
                      exact md_ret
                    ·
                      exact md_ret
                  ·
                    refine md_if ?_ ?_
                    ·
                      refine md_jn (P := fun (f : zMem → zRs) => ∀ (u13 : zMem), zMd [] u0 u13 (f u13)) (fun u13 => ?_) (fun k14 hk14 => ?_)
                      ·
                        exact md_ret
                      ·
                        refine md_if ?_ ?_
                        ·
                          exact hk14 _
                        ·
                          refine md_if ?_ ?_
                          ·
                            exact md_ret
                          ·
                            exact hk14 _
                    ·
                      exact md_ret
theorem mX7_valueOf (x0 x1 : Int) (u0 : zMem) : zMd [703] u0 u0 (fX7_valueOf x0 x1 u0) := by
  unfold fX7_valueOf
  refine md_if ?_ ?_
  ·
    refine md_call (mX9_nameOf (zw32 (x1 - 10000)) u0) (by decide) (fun v1 u2 => ?_)
    refine md_jn (P := fun (f : zMem → zRs) => ∀ (u3 : zMem), zMd [703] u0 u3 (f u3)) (fun u3 => ?_) (fun k4 hk4 => ?_)
    ·
      refine md_vc (mX7_pop x0 u3) (by decide) (fun v5 u6 => ?_)
      refine md_if ?_ ?_
      ·
        refine md_if ?_ ?_
        ·
          exact md_ret
        ·
          exact md_ret
      ·
        refine md_if ?_ ?_
        ·
          exact md_ret
        ·
          refine md_vc (mX7_pop x0 u6) (by decide) (fun v9 u10 => ?_)
          refine md_call (mX7_joint (zw32 (x1 - 10000)) v9 v5 u10) (by decide) (fun v11 u12 => ?_)
          exact md_ret
    ·
      refine md_if ?_ ?_
      ·
        exact hk4 _
      ·
        refine md_gfA (by decide +kernel) (by decide) (fun v13 ov13 => ?_)
        refine md_len (fun v14 => ?_)
        refine md_if ?_ ?_
        ·
          exact hk4 _
        ·
          refine md_gfA (by decide +kernel) (by decide) (fun v15 ov15 => ?_)
          refine md_ald (fun v16 => ?_)
          exact md_ret
  ·
    exact md_ret
theorem mX7_push (x0 x1 : Int) (u0 : zMem) : zMd [702, 703] u0 u0 (fX7_push x0 x1 u0) := by
  unfold fX7_push
  refine md_gf (fun v1 => ?_)
  refine md_if ?_ ?_
  ·
    exact md_ret
  ·
    refine md_gfA (by decide +kernel) (by decide) (fun v2 ov2 => ?_)
    refine md_gf (fun v3 => ?_)
    refine md_ast ov2 (by decide) (by decide) (fun u4 => ?_)
    refine md_gf (fun v5 => ?_)
    refine md_pf (by decide) (by decide) (by decide) (fun u6 => ?_)
    exact md_ret
theorem mX7_work (x0 x1 x2 : Int) (u0 : zMem) : zMd [701, 702, 703] u0 u0 (fX7_work x0 x1 x2 u0) := by
  unfold fX7_work
  refine md_vc (mX7_name x0 x1 x2 u0) (by decide) (fun _ u1 => ?_)
  refine md_pf (by decide) (by decide) (by decide) (fun u2 => ?_)
  refine zlp_ind (fun (f : Int → Int → zMem → zRs) => ∀ (v3 : Int) (v4 : Int) (u5 : zMem), zMd [701, 702, 703] u0 u5 (f v3 v4 u5)) (fun _ _ _ => md_none) (fun k6 hk6 v3 v4 u5 => ?_) _ _ _ _
  refine md_vc (mX4_size x1 u5) (by decide) (fun v7 u8 => ?_)
  refine md_if ?_ ?_
  ·
    exact md_ret
  ·
    refine md_vc (mX4_codeAt x1 v4 u8) (by decide) (fun v9 u10 => ?_)
    refine md_jn (P := fun (f : Int → zMem → zRs) => ∀ (v11 : Int) (u12 : zMem), zMd [701, 702, 703] u0 u12 (f v11 u12)) (fun v11 u12 => ?_) (fun k13 hk13 => ?_)
    ·
      exact hk6 _ _ _
    ·
      refine md_if ?_ ?_
      ·
        refine md_if ?_ ?_
        ·
          refine md_if ?_ ?_
          ·
            refine md_vc (mX7_valueOf x0 v9 u10) (by decide) (fun v14 u15 => ?_)
            refine md_vc (mX7_push x0 v14 u15) (by decide) (fun _ u16 => ?_)
            exact hk13 _ _
          ·
            refine md_vc (mX7_pop x0 u10) (by decide) (fun v17 u18 => ?_)
            refine md_jn (P := fun (f : Int → zMem → zRs) => ∀ (v19 : Int) (u20 : zMem), zMd [701, 702, 703] u0 u20 (f v19 u20)) (fun v19 u20 => ?_) (fun k21 hk21 => ?_)
            ·
              exact hk13 _ _
            ·
              refine md_if ?_ ?_
              ·
                exact hk21 _ _
              ·
                exact hk21 _ _
        ·
          refine md_vc (mX7_pop x0 u10) (by decide) (fun v22 u23 => ?_)
          exact md_ret
      ·
        refine md_jn (P := fun (f : Int → zMem → zRs) => ∀ (v24 : Int) (u25 : zMem), zMd [701, 702, 703] u0 u25 (f v24 u25)) (fun v24 u25 => ?_) (fun k26 hk26 => ?_)
        ·
          exact hk13 _ _
        ·
          refine md_if ?_ ?_
          ·
            exact hk26 _ _
          ·
            exact hk26 _ _
theorem mX3_heedOf (x0 x1 x2 : Int) (u0 : zMem) : zMd [701, 702, 703] u0 u0 (fX3_heedOf x0 x1 x2 u0) := by
  unfold fX3_heedOf
  refine md_vc (mX3_has x0 x1 u0) (by decide) (fun v1 u2 => ?_)
  refine md_if ?_ ?_
  ·
    refine md_gf (fun v3 => ?_)
    refine md_gf (fun v4 => ?_)
    refine md_ald (fun v5 => ?_)
    refine md_vc (mX7_work v3 v5 x2 u2) (by decide) (fun v6 u7 => ?_)
    exact md_ret
  ·
    exact md_ret
theorem mX1_chanceIfSaid (x0 x1 x2 : Int) (u0 : zMem) : zMd [701, 702, 703] u0 u0 (fX1_chanceIfSaid x0 x1 x2 u0) := by
  unfold fX1_chanceIfSaid
  refine zlp_ind (fun (f : Int → Int → Int → zMem → zRs) => ∀ (v1 : Int) (v2 : Int) (v3 : Int) (u4 : zMem), zMd [701, 702, 703] u0 u4 (f v1 v2 v3 u4)) (fun _ _ _ _ => md_none) (fun k5 hk5 v1 v2 v3 u4 => ?_) _ _ _ _ _
  refine md_gf (fun v6 => ?_)
  refine md_if ?_ ?_
  ·
    exact md_ret
  ·
    refine md_if ?_ ?_
    ·
      exact md_ret
    ·
      refine md_gf (fun v7 => ?_)
      refine md_ald (fun v8 => ?_)
      refine md_vc (mX6_by v8 u4) (by decide) (fun v9 u10 => ?_)
      refine md_jn (P := fun (f : Int → Int → zMem → zRs) => ∀ (v11 : Int) (v12 : Int) (u13 : zMem), zMd [701, 702, 703] u0 u13 (f v11 v12 u13)) (fun v11 v12 u13 => ?_) (fun k14 hk14 => ?_)
      ·
        exact hk5 _ _ _ _
      ·
        refine md_if ?_ ?_
        ·
          exact hk14 _ _ _
        ·
          refine md_vc (mX3_heedOf x2 v9 x1 u10) (by decide) (fun v15 u16 => ?_)
          refine md_gf (fun v17 => ?_)
          refine md_ald (fun v18 => ?_)
          refine md_vc (mX6_placeOf v18 x1 u16) (by decide) (fun v19 u20 => ?_)
          refine md_jn (P := fun (f : Int → zMem → zRs) => ∀ (v21 : Int) (u22 : zMem), zMd [701, 702, 703] u0 u22 (f v21 u22)) (fun v21 u22 => ?_) (fun k23 hk23 => ?_)
          ·
            exact hk14 _ _ _
          ·
            refine md_if ?_ ?_
            ·
              exact hk23 _ _
            ·
              exact hk23 _ _
theorem mX1_chanceIfNot (x0 x1 : Int) (u0 : zMem) : zMd [] u0 u0 (fX1_chanceIfNot x0 x1 u0) := by
  unfold fX1_chanceIfNot
  refine zlp_ind (fun (f : Int → Int → Int → zMem → zRs) => ∀ (v1 : Int) (v2 : Int) (v3 : Int) (u4 : zMem), zMd [] u0 u4 (f v1 v2 v3 u4)) (fun _ _ _ _ => md_none) (fun k5 hk5 v1 v2 v3 u4 => ?_) _ _ _ _ _
  refine md_gf (fun v6 => ?_)
  refine md_if ?_ ?_
  ·
    exact md_ret
  ·
    refine md_if ?_ ?_
    ·
      exact md_ret
    ·
      refine md_gf (fun v7 => ?_)
      refine md_ald (fun v8 => ?_)
      refine md_vc (mX6_by v8 u4) (by decide) (fun v9 u10 => ?_)
      refine md_jn (P := fun (f : Int → Int → zMem → zRs) => ∀ (v11 : Int) (v12 : Int) (u13 : zMem), zMd [] u0 u13 (f v11 v12 u13)) (fun v11 v12 u13 => ?_) (fun k14 hk14 => ?_)
      ·
        exact hk5 _ _ _ _
      ·
        refine md_if ?_ ?_
        ·
          exact hk14 _ _ _
        ·
          refine md_gf (fun v15 => ?_)
          refine md_ald (fun v16 => ?_)
          refine md_vc (mX6_placeOf v16 x1 u10) (by decide) (fun v17 u18 => ?_)
          refine md_jn (P := fun (f : Int → zMem → zRs) => ∀ (v19 : Int) (u20 : zMem), zMd [] u0 u20 (f v19 u20)) (fun v19 u20 => ?_) (fun k21 hk21 => ?_)
          ·
            exact hk14 _ _ _
          ·
            refine md_if ?_ ?_
            ·
              exact hk21 _ _
            ·
              exact hk21 _ _
theorem mX1_spanFrom (x0 x1 x2 : Int) (u0 : zMem) : zMd [] u0 u0 (fX1_spanFrom x0 x1 x2 u0) := by
  unfold fX1_spanFrom
  refine zlp_ind (fun (f : Int → Int → zMem → zRs) => ∀ (v1 : Int) (v2 : Int) (u3 : zMem), zMd [] u0 u3 (f v1 v2 u3)) (fun _ _ _ => md_none) (fun k4 hk4 v1 v2 u3 => ?_) _ _ _ _
  refine md_gf (fun v5 => ?_)
  refine md_vc (mX5_size v5 u3) (by decide) (fun v6 u7 => ?_)
  refine md_if ?_ ?_
  ·
    exact md_ret
  ·
    refine md_vc (mX6_placeOf x1 v2 u7) (by decide) (fun v8 u9 => ?_)
    refine md_if ?_ ?_
    ·
      exact md_ret
    ·
      refine md_gf (fun v10 => ?_)
      refine md_vc (mX5_part v10 v2 3 u9) (by decide) (fun v11 u12 => ?_)
      exact hk4 _ _ _
theorem mX1_longestGap (x0 x1 : Int) (u0 : zMem) : zMd [] u0 u0 (fX1_longestGap x0 x1 u0) := by
  unfold fX1_longestGap
  refine zlp_ind (fun (f : Int → Int → Int → zMem → zRs) => ∀ (v1 : Int) (v2 : Int) (v3 : Int) (u4 : zMem), zMd [] u0 u4 (f v1 v2 v3 u4)) (fun _ _ _ _ => md_none) (fun k5 hk5 v1 v2 v3 u4 => ?_) _ _ _ _ _
  refine md_gf (fun v6 => ?_)
  refine md_vc (mX5_size v6 u4) (by decide) (fun v7 u8 => ?_)
  refine md_if ?_ ?_
  ·
    exact md_ret
  ·
    refine md_vc (mX1_spanFrom x0 x1 v3 u8) (by decide) (fun v9 u10 => ?_)
    refine md_jn (P := fun (f : Int → Int → zMem → zRs) => ∀ (v11 : Int) (v12 : Int) (u13 : zMem), zMd [] u0 u13 (f v11 v12 u13)) (fun v11 v12 u13 => ?_) (fun k14 hk14 => ?_)
    ·
      exact hk5 _ _ _ _
    ·
      refine md_if ?_ ?_
      ·
        exact hk14 _ _ _
      ·
        exact hk14 _ _ _
theorem mX2_done (x0 : Int) (u0 : zMem) : zMd [] u0 u0 (fX2_done x0 u0) := by
  unfold fX2_done
  refine md_gf (fun v1 => ?_)
  exact md_ret
theorem mX2_undone (x0 : Int) (u0 : zMem) : zMd [] u0 u0 (fX2_undone x0 u0) := by
  unfold fX2_undone
  refine md_gf (fun v1 => ?_)
  refine md_gf (fun v2 => ?_)
  exact md_ret
theorem mX2_dropFirst (x0 : Int) (u0 : zMem) : zMd [200, 201] u0 u0 (fX2_dropFirst x0 u0) := by
  unfold fX2_dropFirst
  refine md_gfA (by decide +kernel) (by decide) (fun v1 ov1 => ?_)
  refine md_len (fun v2 => ?_)
  refine zlp_ind (fun (f : Int → zMem → zRs) => ∀ (v3 : Int) (u4 : zMem), zMd [200, 201] u0 u4 (f v3 u4)) (fun _ _ => md_none) (fun k5 hk5 v3 u4 => ?_) _ _ _
  refine md_if ?_ ?_
  ·
    refine md_pf (by decide) (by decide) (by decide) (fun u6 => ?_)
    exact md_ret
  ·
    refine md_aldR ov1 (fun v7 ov7 => ?_)
    refine md_copy ov7 (by decide) (by decide) (fun u8 => ?_)
    exact hk5 _ _
theorem mX2_note (x0 x1 x2 x3 x4 : Int) (u0 : zMem) : zMd [200, 201, 202] u0 u0 (fX2_note x0 x1 x2 x3 x4 u0) := by
  unfold fX2_note
  refine md_gf (fun v1 => ?_)
  refine md_jn (P := fun (f : zMem → zRs) => ∀ (u2 : zMem), zMd [200, 201, 202] u0 u2 (f u2)) (fun u2 => ?_) (fun k3 hk3 => ?_)
  ·
    refine md_gfA (by decide +kernel) (by decide) (fun v4 ov4 => ?_)
    refine md_aldR ov4 (fun v5 ov5 => ?_)
    refine md_gf (fun v6 => ?_)
    refine md_ast ov5 (by decide) (by decide) (fun u7 => ?_)
    refine md_gfA (by decide +kernel) (by decide) (fun v8 ov8 => ?_)
    refine md_aldR ov8 (fun v9 ov9 => ?_)
    refine md_gf (fun v10 => ?_)
    refine md_ast ov9 (by decide) (by decide) (fun u11 => ?_)
    refine md_gfA (by decide +kernel) (by decide) (fun v12 ov12 => ?_)
    refine md_aldR ov12 (fun v13 ov13 => ?_)
    refine md_gf (fun v14 => ?_)
    refine md_ast ov13 (by decide) (by decide) (fun u15 => ?_)
    refine md_gfA (by decide +kernel) (by decide) (fun v16 ov16 => ?_)
    refine md_aldR ov16 (fun v17 ov17 => ?_)
    refine md_gf (fun v18 => ?_)
    refine md_ast ov17 (by decide) (by decide) (fun u19 => ?_)
    refine md_gf (fun v20 => ?_)
    refine md_pf (by decide) (by decide) (by decide) (fun u21 => ?_)
    refine md_gf (fun v22 => ?_)
    refine md_pf (by decide) (by decide) (by decide) (fun u23 => ?_)
    exact md_ret
  ·
    refine md_if ?_ ?_
    ·
      exact hk3 _
    ·
      refine md_vc (mX2_dropFirst x0 u0) (by decide) (fun _ u24 => ?_)
      exact hk3 _
theorem mX5_has (x0 x1 : Int) (u0 : zMem) : zMd [] u0 u0 (fX5_has x0 x1 u0) := by
  unfold fX5_has
  refine md_jn (P := fun (f : zMem → zRs) => ∀ (u1 : zMem), zMd [] u0 u1 (f u1)) (fun u1 => ?_) (fun k2 hk2 => ?_)
  ·
    exact md_bl md_ret
  ·
    refine md_if ?_ ?_
    ·
      exact hk2 _
    ·
      refine md_gf (fun v3 => ?_)
      refine md_if ?_ ?_
      ·
        exact hk2 _
      ·
        exact md_bl md_ret
theorem mX5_fits (x0 x1 : Int) (u0 : zMem) : zMd [] u0 u0 (fX5_fits x0 x1 u0) := by
  unfold fX5_fits
  refine md_jn (P := fun (f : zMem → zRs) => ∀ (u1 : zMem), zMd [] u0 u1 (f u1)) (fun u1 => ?_) (fun k2 hk2 => ?_)
  ·
    exact md_bl md_ret
  ·
    refine md_if ?_ ?_
    ·
      exact hk2 _
    ·
      refine md_if ?_ ?_
      ·
        exact hk2 _
      ·
        refine md_ald (fun v3 => ?_)
        refine md_if ?_ ?_
        ·
          exact hk2 _
        ·
          refine md_ald (fun v4 => ?_)
          refine md_if ?_ ?_
          ·
            exact hk2 _
          ·
            exact md_bl md_ret
theorem mX5_change (x0 x1 x2 x3 : Int) (u0 : zMem) : zMd [500] u0 u0 (fX5_change x0 x1 x2 x3 u0) := by
  unfold fX5_change
  refine md_vc (mX5_has x0 x1 u0) (by decide) (fun v1 u2 => ?_)
  refine md_if ?_ ?_
  ·
    exact md_ret
  ·
    refine md_call (mX5_fits x2 x3 u2) (by decide) (fun v3 u4 => ?_)
    refine md_if ?_ ?_
    ·
      exact md_ret
    ·
      refine md_gfA (by decide +kernel) (by decide) (fun v5 ov5 => ?_)
      refine md_aldR ov5 (fun v6 ov6 => ?_)
      refine md_ast ov6 (by decide) (by decide) (fun u7 => ?_)
      exact md_ret
theorem mX2_stepBack (x0 x1 : Int) (u0 : zMem) : zMd [201, 500] u0 u0 (fX2_stepBack x0 x1 u0) := by
  unfold fX2_stepBack
  refine md_gf (fun v1 => ?_)
  refine md_if ?_ ?_
  ·
    refine md_gf (fun v2 => ?_)
    refine md_pf (by decide) (by decide) (by decide) (fun u3 => ?_)
    refine md_gfA (by decide +kernel) (by decide) (fun v4 ov4 => ?_)
    refine md_aldR ov4 (fun v5 ov5 => ?_)
    refine md_gf (fun v6 => ?_)
    refine md_ald (fun v7 => ?_)
    refine md_gfA (by decide +kernel) (by decide) (fun v8 ov8 => ?_)
    refine md_aldR ov8 (fun v9 ov9 => ?_)
    refine md_gf (fun v10 => ?_)
    refine md_ald (fun v11 => ?_)
    refine md_gfA (by decide +kernel) (by decide) (fun v12 ov12 => ?_)
    refine md_aldR ov12 (fun v13 ov13 => ?_)
    refine md_gf (fun v14 => ?_)
    refine md_ald (fun v15 => ?_)
    refine md_vc (mX5_change x1 v7 v11 v15 u3) (by decide) (fun _ u16 => ?_)
    exact md_bl md_ret
  ·
    exact md_bl md_ret
theorem mX2_stepOn (x0 x1 : Int) (u0 : zMem) : zMd [201, 500] u0 u0 (fX2_stepOn x0 x1 u0) := by
  unfold fX2_stepOn
  refine md_gf (fun v1 => ?_)
  refine md_gf (fun v2 => ?_)
  refine md_if ?_ ?_
  ·
    refine md_gfA (by decide +kernel) (by decide) (fun v3 ov3 => ?_)
    refine md_aldR ov3 (fun v4 ov4 => ?_)
    refine md_gf (fun v5 => ?_)
    refine md_ald (fun v6 => ?_)
    refine md_gfA (by decide +kernel) (by decide) (fun v7 ov7 => ?_)
    refine md_aldR ov7 (fun v8 ov8 => ?_)
    refine md_gf (fun v9 => ?_)
    refine md_ald (fun v10 => ?_)
    refine md_gfA (by decide +kernel) (by decide) (fun v11 ov11 => ?_)
    refine md_aldR ov11 (fun v12 ov12 => ?_)
    refine md_gf (fun v13 => ?_)
    refine md_ald (fun v14 => ?_)
    refine md_vc (mX5_change x1 v6 v10 v14 u0) (by decide) (fun _ u15 => ?_)
    refine md_gf (fun v16 => ?_)
    refine md_pf (by decide) (by decide) (by decide) (fun u17 => ?_)
    exact md_bl md_ret
  ·
    exact md_bl md_ret
theorem mX3_size (x0 : Int) (u0 : zMem) : zMd [] u0 u0 (fX3_size x0 u0) := by
  unfold fX3_size
  refine md_gf (fun v1 => ?_)
  exact md_ret
theorem mX3_isEmpty (x0 : Int) (u0 : zMem) : zMd [] u0 u0 (fX3_isEmpty x0 u0) := by
  unfold fX3_isEmpty
  refine md_gf (fun v1 => ?_)
  refine md_if ?_ ?_
  ·
    exact md_bl md_ret
  ·
    exact md_bl md_ret
theorem mX3_isFull (x0 : Int) (u0 : zMem) : zMd [] u0 u0 (fX3_isFull x0 u0) := by
  unfold fX3_isFull
  refine md_gf (fun v1 => ?_)
  refine md_if ?_ ?_
  ·
    exact md_bl md_ret
  ·
    exact md_bl md_ret
theorem mX9_copyCodes (x0 x1 : Int) (u0 : zMem) (hx1 : zown x1 = 400) : zMd [400] u0 u0 (fX9_copyCodes x0 x1 u0) := by
  unfold fX9_copyCodes
  refine md_gf (fun v1 => ?_)
  refine md_len (fun v2 => ?_)
  refine md_gfA (by decide +kernel) (by decide) (fun v3 ov3 => ?_)
  refine md_copy hx1 (by decide) (by decide) (fun u4 => ?_)
  exact md_ret
theorem mX4_become (x0 x1 x2 x3 : Int) (u0 : zMem) : zMd [400, 401, 402, 403] u0 u0 (fX4_become x0 x1 x2 x3 u0) := by
  unfold fX4_become
  refine md_gfA (by decide +kernel) (by decide) (fun v1 ov1 => ?_)
  refine md_vc (mX9_copyCodes x1 v1 u0 ov1) (by decide) (fun v2 u3 => ?_)
  refine md_pf (by decide) (by decide) (by decide) (fun u4 => ?_)
  refine md_pf (by decide) (by decide) (by decide) (fun u5 => ?_)
  refine md_pf (by decide) (by decide) (by decide) (fun u6 => ?_)
  exact md_ret
theorem mX3_admit (x0 x1 x2 x3 : Int) (u0 : zMem) : zMd [303, 400, 401, 402, 403] u0 u0 (fX3_admit x0 x1 x2 x3 u0) := by
  unfold fX3_admit
  refine md_vc (mX3_isFull x0 u0) (by decide) (fun v1 u2 => ?_)
  refine md_if ?_ ?_
  ·
    refine md_gf (fun v3 => ?_)
    refine md_gf (fun v4 => ?_)
    refine md_ald (fun v5 => ?_)
    refine md_vc (mX4_become v5 x1 x2 x3 u2) (by decide) (fun _ u6 => ?_)
    refine md_gf (fun v7 => ?_)
    refine md_pf (by decide) (by decide) (by decide) (fun u8 => ?_)
    refine md_gf (fun v9 => ?_)
    exact md_ret
  ·
    exact md_ret
theorem mX6_append (x0 x1 x2 x3 : Int) (u0 : zMem) : zMd [600, 601] u0 u0 (fX6_append x0 x1 x2 x3 u0) := by
  unfold fX6_append
  refine md_gf (fun v1 => ?_)
  refine md_if ?_ ?_
  ·
    refine md_gfA (by decide +kernel) (by decide) (fun v2 ov2 => ?_)
    refine md_aldR ov2 (fun v3 ov3 => ?_)
    refine md_gf (fun v4 => ?_)
    refine md_ast ov3 (by decide) (by decide) (fun u5 => ?_)
    refine md_gfA (by decide +kernel) (by decide) (fun v6 ov6 => ?_)
    refine md_aldR ov6 (fun v7 ov7 => ?_)
    refine md_gf (fun v8 => ?_)
    refine md_ast ov7 (by decide) (by decide) (fun u9 => ?_)
    refine md_gfA (by decide +kernel) (by decide) (fun v10 ov10 => ?_)
    refine md_aldR ov10 (fun v11 ov11 => ?_)
    refine md_gf (fun v12 => ?_)
    refine md_ast ov11 (by decide) (by decide) (fun u13 => ?_)
    refine md_gfA (by decide +kernel) (by decide) (fun v14 ov14 => ?_)
    refine md_aldR ov14 (fun v15 ov15 => ?_)
    refine md_gf (fun v16 => ?_)
    refine md_ast ov15 (by decide) (by decide) (fun u17 => ?_)
    refine md_gf (fun v18 => ?_)
    refine md_pf (by decide) (by decide) (by decide) (fun u19 => ?_)
    exact md_bl md_ret
  ·
    exact md_bl md_ret
theorem mX4_has (x0 x1 : Int) (u0 : zMem) : zMd [] u0 u0 (fX4_has x0 x1 u0) := by
  unfold fX4_has
  refine md_gf (fun v1 => ?_)
  refine md_if ?_ ?_
  ·
    exact md_bl md_ret
  ·
    exact md_bl md_ret
theorem mX6_isAlike (x0 x1 x2 : Int) (u0 : zMem) : zMd [] u0 u0 (fX6_isAlike x0 x1 x2 u0) := by
  unfold fX6_isAlike
  refine md_vc (mX5_part x0 x1 0 u0) (by decide) (fun v1 u2 => ?_)
  refine md_vc (mX5_part x0 x2 0 u2) (by decide) (fun v3 u4 => ?_)
  refine md_jn (P := fun (f : zMem → zRs) => ∀ (u5 : zMem), zMd [] u0 u5 (f u5)) (fun u5 => ?_) (fun k6 hk6 => ?_)
  ·
    exact md_bl md_ret
  ·
    refine md_if ?_ ?_
    ·
      exact hk6 _
    ·
      refine md_vc (mX5_part x0 x1 2 u4) (by decide) (fun v7 u8 => ?_)
      refine md_vc (mX5_part x0 x2 2 u8) (by decide) (fun v9 u10 => ?_)
      refine md_if ?_ ?_
      ·
        exact hk6 _
      ·
        exact md_bl md_ret
theorem mX6_move (x0 x1 x2 : Int) (u0 : zMem) : zMd [600] u0 u0 (fX6_move x0 x1 x2 u0) := by
  unfold fX6_move
  refine md_vc (mX6_hasPlace x0 x1 u0) (by decide) (fun v1 u2 => ?_)
  refine md_if ?_ ?_
  ·
    exact md_ret
  ·
    refine md_vc (mX6_hasPlace x0 x2 u2) (by decide) (fun v3 u4 => ?_)
    refine md_if ?_ ?_
    ·
      refine md_gfA (by decide +kernel) (by decide) (fun v5 ov5 => ?_)
      refine md_len (fun v6 => ?_)
      refine zlp_ind (fun (f : Int → zMem → zRs) => ∀ (v7 : Int) (u8 : zMem), zMd [600] u0 u8 (f v7 u8)) (fun _ _ => md_none) (fun k9 hk9 v7 u8 => ?_) _ _ _
      refine md_if ?_ ?_
      ·
        exact md_ret
      ·
        refine md_aldR ov5 (fun v10 ov10 => ?_)
        refine md_ald (fun v11 => ?_)
        refine md_jn (P := fun (f : zMem → zRs) => ∀ (u12 : zMem), zMd [600] u0 u12 (f u12)) (fun u12 => ?_) (fun k13 hk13 => ?_)
        ·
          refine md_ast ov10 (by decide) (by decide) (fun u14 => ?_)
          exact hk9 _ _
        ·
          refine md_if ?_ ?_
          ·
            refine md_copy ov10 (by decide) (by decide) (fun u15 => ?_)
            exact hk13 _
          ·
            refine md_copy ov10 (by decide) (by decide) (fun u16 => ?_)
            exact hk13 _
    ·
      exact md_ret
theorem mX6_drop (x0 x1 : Int) (u0 : zMem) : zMd [600, 601] u0 u0 (fX6_drop x0 x1 u0) := by
  unfold fX6_drop
  refine md_vc (mX6_hasPlace x0 x1 u0) (by decide) (fun v1 u2 => ?_)
  refine md_if ?_ ?_
  ·
    exact md_ret
  ·
    refine md_gf (fun v3 => ?_)
    refine md_vc (mX6_move x0 x1 (zw32 (v3 - 1)) u2) (by decide) (fun _ u4 => ?_)
    refine md_gf (fun v5 => ?_)
    refine md_pf (by decide) (by decide) (by decide) (fun u6 => ?_)
    exact md_ret
theorem mX6_join (x0 x1 : Int) (u0 : zMem) : zMd [600, 601] u0 u0 (fX6_join x0 x1 u0) := by
  unfold fX6_join
  refine md_gf (fun v1 => ?_)
  refine zlp_ind (fun (f : Int → zMem → zRs) => ∀ (v2 : Int) (u3 : zMem), zMd [600, 601] u0 u3 (f v2 u3)) (fun _ _ => md_none) (fun k4 hk4 v2 u3 => ?_) _ _ _
  refine md_if ?_ ?_
  ·
    exact md_ret
  ·
    refine md_gfA (by decide +kernel) (by decide) (fun v5 ov5 => ?_)
    refine md_aldR ov5 (fun v6 ov6 => ?_)
    refine md_ald (fun v7 => ?_)
    refine md_gfA (by decide +kernel) (by decide) (fun v8 ov8 => ?_)
    refine md_aldR ov8 (fun v9 ov9 => ?_)
    refine md_ald (fun v10 => ?_)
    refine md_call (mX6_isAlike x1 v7 v10 u3) (by decide) (fun v11 u12 => ?_)
    refine md_jn (P := fun (f : zMem → zRs) => ∀ (u13 : zMem), zMd [600, 601] u0 u13 (f u13)) (fun u13 => ?_) (fun k14 hk14 => ?_)
    ·
      exact hk4 _ _
    ·
      refine md_if ?_ ?_
      ·
        exact hk14 _
      ·
        refine md_gfA (by decide +kernel) (by decide) (fun v15 ov15 => ?_)
        refine md_aldR ov15 (fun v16 ov16 => ?_)
        refine md_ald (fun v17 => ?_)
        refine md_gfA (by decide +kernel) (by decide) (fun v18 ov18 => ?_)
        refine md_aldR ov18 (fun v19 ov19 => ?_)
        refine md_ald (fun v20 => ?_)
        refine md_ast ov16 (by decide) (by decide) (fun u21 => ?_)
        refine md_vc (mX6_drop x0 (zw32 (v2 + 1)) u21) (by decide) (fun _ u22 => ?_)
        exact hk14 _
theorem mX6_soften (x0 : Int) (u0 : zMem) : zMd [600] u0 u0 (fX6_soften x0 u0) := by
  unfold fX6_soften
  refine zlp_ind (fun (f : Int → zMem → zRs) => ∀ (v1 : Int) (u2 : zMem), zMd [600] u0 u2 (f v1 u2)) (fun _ _ => md_none) (fun k3 hk3 v1 u2 => ?_) _ _ _
  refine md_gf (fun v4 => ?_)
  refine md_if ?_ ?_
  ·
    exact md_ret
  ·
    refine md_gfA (by decide +kernel) (by decide) (fun v5 ov5 => ?_)
    refine md_aldR ov5 (fun v6 ov6 => ?_)
    refine md_ald (fun v7 => ?_)
    refine md_jn (P := fun (f : zMem → zRs) => ∀ (u8 : zMem), zMd [600] u0 u8 (f u8)) (fun u8 => ?_) (fun k9 hk9 => ?_)
    ·
      exact hk3 _ _
    ·
      refine md_if ?_ ?_
      ·
        exact hk9 _
      ·
        refine md_gfA (by decide +kernel) (by decide) (fun v10 ov10 => ?_)
        refine md_aldR ov10 (fun v11 ov11 => ?_)
        refine md_ast ov11 (by decide) (by decide) (fun u12 => ?_)
        exact hk9 _
theorem mX6_decisionsLast (x0 : Int) (u0 : zMem) : zMd [600] u0 u0 (fX6_decisionsLast x0 u0) := by
  unfold fX6_decisionsLast
  refine zlp_ind (fun (f : Int → Int → zMem → zRs) => ∀ (v1 : Int) (v2 : Int) (u3 : zMem), zMd [600] u0 u3 (f v1 v2 u3)) (fun _ _ _ => md_none) (fun k4 hk4 v1 v2 u3 => ?_) _ _ _ _
  refine md_gf (fun v5 => ?_)
  refine md_if ?_ ?_
  ·
    exact md_ret
  ·
    refine md_vc (mX6_part x0 v1 1 u3) (by decide) (fun v6 u7 => ?_)
    refine md_jn (P := fun (f : Int → zMem → zRs) => ∀ (v8 : Int) (u9 : zMem), zMd [600] u0 u9 (f v8 u9)) (fun v8 u9 => ?_) (fun k10 hk10 => ?_)
    ·
      exact hk4 _ _ _
    ·
      refine md_if ?_ ?_
      ·
        exact hk10 _ _
      ·
        refine md_gf (fun v11 => ?_)
        refine md_vc (mX6_move x0 v1 (zw32 (v11 - 1)) u7) (by decide) (fun _ u12 => ?_)
        exact hk10 _ _
theorem mX6_follow (x0 x1 x2 : Int) (u0 : zMem) : zMd [600, 601] u0 u0 (fX6_follow x0 x1 x2 u0) := by
  unfold fX6_follow
  refine md_vc (mX4_has x1 1 u0) (by decide) (fun v1 u2 => ?_)
  refine md_jn (P := fun (f : zMem → zRs) => ∀ (u3 : zMem), zMd [600, 601] u0 u3 (f u3)) (fun u3 => ?_) (fun k4 hk4 => ?_)
  ·
    refine md_vc (mX4_has x1 2 u3) (by decide) (fun v5 u6 => ?_)
    refine md_jn (P := fun (f : zMem → zRs) => ∀ (u7 : zMem), zMd [600, 601] u0 u7 (f u7)) (fun u7 => ?_) (fun k8 hk8 => ?_)
    ·
      refine md_vc (mX4_has x1 4 u7) (by decide) (fun v9 u10 => ?_)
      refine md_if ?_ ?_
      ·
        exact md_ret
      ·
        refine md_vc (mX6_decisionsLast x0 u10) (by decide) (fun _ u11 => ?_)
        exact md_ret
    ·
      refine md_if ?_ ?_
      ·
        exact hk8 _
      ·
        refine md_vc (mX6_soften x0 u6) (by decide) (fun _ u12 => ?_)
        exact hk8 _
  ·
    refine md_if ?_ ?_
    ·
      exact hk4 _
    ·
      refine md_vc (mX6_join x0 x2 u2) (by decide) (fun _ u13 => ?_)
      exact hk4 _
theorem mX3_takeDown (x0 x1 x2 x3 : Int) (u0 : zMem) : zMd [600, 601, 701, 702, 703] u0 u0 (fX3_takeDown x0 x1 x2 x3 u0) := by
  unfold fX3_takeDown
  refine md_vc (mX3_has x0 x1 u0) (by decide) (fun v1 u2 => ?_)
  refine md_if ?_ ?_
  ·
    refine md_gf (fun v3 => ?_)
    refine md_ald (fun v4 => ?_)
    refine zlp_ind (fun (f : Int → Int → zMem → zRs) => ∀ (v5 : Int) (v6 : Int) (u7 : zMem), zMd [600, 601, 701, 702, 703] u0 u7 (f v5 v6 u7)) (fun _ _ _ => md_none) (fun k8 hk8 v5 v6 u7 => ?_) _ _ _ _
    refine md_gf (fun v9 => ?_)
    refine md_vc (mX5_size v9 u7) (by decide) (fun v10 u11 => ?_)
    refine md_if ?_ ?_
    ·
      refine md_gf (fun v12 => ?_)
      refine md_vc (mX6_follow x3 v4 v12 u11) (by decide) (fun _ u13 => ?_)
      exact md_ret
    ·
      refine md_nz ?_
      refine md_vc (mX3_heedOf x0 x1 v6 u11) (by decide) (fun v14 u15 => ?_)
      refine md_jn (P := fun (f : zMem → zRs) => ∀ (u16 : zMem), zMd [600, 601, 701, 702, 703] u0 u16 (f u16)) (fun u16 => ?_) (fun k17 hk17 => ?_)
      ·
        exact hk8 _ _ _
      ·
        refine md_if ?_ ?_
        ·
          exact hk17 _
        ·
          refine md_gf (fun v18 => ?_)
          refine md_vc (mX5_part v18 v6 3 u15) (by decide) (fun v19 u20 => ?_)
          refine md_gf (fun v21 => ?_)
          refine md_vc (mX5_part v21 v6 0 u20) (by decide) (fun v22 u23 => ?_)
          refine md_vc (mX4_isSelf v4 v22 u23) (by decide) (fun v24 u25 => ?_)
          refine md_gf (fun v26 => ?_)
          refine md_vc (mX5_part v26 v6 1 u25) (by decide) (fun v27 u28 => ?_)
          refine md_jn (P := fun (f : Int → zMem → zRs) => ∀ (v29 : Int) (u30 : zMem), zMd [600, 601, 701, 702, 703] u0 u30 (f v29 u30)) (fun v29 u30 => ?_) (fun k31 hk31 => ?_)
          ·
            refine md_vc (mX6_append x3 v6 v27 v29 u30) (by decide) (fun v32 u33 => ?_)
            exact hk17 _
          ·
            refine md_if ?_ ?_
            ·
              exact hk31 _ _
            ·
              exact hk31 _ _
  ·
    exact md_ret
theorem mX3_chanceOf (x0 x1 x2 : Int) (u0 : zMem) : zMd [701, 702, 703] u0 u0 (fX3_chanceOf x0 x1 x2 u0) := by
  unfold fX3_chanceOf
  refine zlp_ind (fun (f : Int → Int → zMem → zRs) => ∀ (v1 : Int) (v2 : Int) (u3 : zMem), zMd [701, 702, 703] u0 u3 (f v1 v2 u3)) (fun _ _ _ => md_none) (fun k4 hk4 v1 v2 u3 => ?_) _ _ _ _
  refine md_gf (fun v5 => ?_)
  refine md_vc (mX5_size v5 u3) (by decide) (fun v6 u7 => ?_)
  refine md_if ?_ ?_
  ·
    exact md_ret
  ·
    refine md_vc (mX3_heedOf x0 x1 v2 u7) (by decide) (fun v8 u9 => ?_)
    refine md_vc (mX6_placeOf x2 v2 u9) (by decide) (fun v10 u11 => ?_)
    refine md_jn (P := fun (f : Int → zMem → zRs) => ∀ (v12 : Int) (u13 : zMem), zMd [701, 702, 703] u0 u13 (f v12 u13)) (fun v12 u13 => ?_) (fun k14 hk14 => ?_)
    ·
      refine md_nz ?_
      exact hk4 _ _ _
    ·
      refine md_if ?_ ?_
      ·
        exact hk14 _ _
      ·
        exact hk14 _ _
theorem mX3_likeliest (x0 x1 : Int) (u0 : zMem) : zMd [701, 702, 703] u0 u0 (fX3_likeliest x0 x1 u0) := by
  unfold fX3_likeliest
  refine zlp_ind (fun (f : Int → Int → Int → zMem → zRs) => ∀ (v1 : Int) (v2 : Int) (v3 : Int) (u4 : zMem), zMd [701, 702, 703] u0 u4 (f v1 v2 v3 u4)) (fun _ _ _ _ => md_none) (fun k5 hk5 v1 v2 v3 u4 => ?_) _ _ _ _ _
  refine md_gf (fun v6 => ?_)
  refine md_if ?_ ?_
  ·
    exact md_ret
  ·
    refine md_vc (mX3_chanceOf x0 v3 x1 u4) (by decide) (fun v7 u8 => ?_)
    refine md_jn (P := fun (f : Int → Int → zMem → zRs) => ∀ (v9 : Int) (v10 : Int) (u11 : zMem), zMd [701, 702, 703] u0 u11 (f v9 v10 u11)) (fun v9 v10 u11 => ?_) (fun k12 hk12 => ?_)
    ·
      exact hk5 _ _ _ _
    ·
      refine md_if ?_ ?_
      ·
        exact hk12 _ _ _
      ·
        exact hk12 _ _ _
theorem mX3_offOf (x0 x1 x2 x3 : Int) (u0 : zMem) : zMd [701, 702, 703] u0 u0 (fX3_offOf x0 x1 x2 x3 u0) := by
  unfold fX3_offOf
  refine md_call (mJ6_bitCount_0f7a4 x2 u0) (by decide) (fun v1 u2 => ?_)
  refine zlp_ind (fun (f : Int → Int → zMem → zRs) => ∀ (v3 : Int) (v4 : Int) (u5 : zMem), zMd [701, 702, 703] u0 u5 (f v3 v4 u5)) (fun _ _ _ => md_none) (fun k6 hk6 v3 v4 u5 => ?_) _ _ _ _
  refine md_gf (fun v7 => ?_)
  refine md_vc (mX5_size v7 u5) (by decide) (fun v8 u9 => ?_)
  refine md_if ?_ ?_
  ·
    exact md_ret
  ·
    refine md_vc (mX3_heedOf x0 x1 v4 u9) (by decide) (fun v10 u11 => ?_)
    refine md_vc (mX1_papersWith_ x3 v4 x2 u11) (by decide) (fun v12 u13 => ?_)
    exact hk6 _ _ _
theorem mX3_leastOff (x0 x1 x2 : Int) (u0 : zMem) : zMd [701, 702, 703] u0 u0 (fX3_leastOff x0 x1 x2 u0) := by
  unfold fX3_leastOff
  refine md_vc (mX3_offOf x0 0 x1 x2 u0) (by decide) (fun v1 u2 => ?_)
  refine zlp_ind (fun (f : Int → Int → Int → zMem → zRs) => ∀ (v3 : Int) (v4 : Int) (v5 : Int) (u6 : zMem), zMd [701, 702, 703] u0 u6 (f v3 v4 v5 u6)) (fun _ _ _ _ => md_none) (fun k7 hk7 v3 v4 v5 u6 => ?_) _ _ _ _ _
  refine md_gf (fun v8 => ?_)
  refine md_if ?_ ?_
  ·
    exact md_ret
  ·
    refine md_vc (mX3_offOf x0 v5 x1 x2 u6) (by decide) (fun v9 u10 => ?_)
    refine md_jn (P := fun (f : Int → Int → zMem → zRs) => ∀ (v11 : Int) (v12 : Int) (u13 : zMem), zMd [701, 702, 703] u0 u13 (f v11 v12 u13)) (fun v11 v12 u13 => ?_) (fun k14 hk14 => ?_)
    ·
      exact hk7 _ _ _ _
    ·
      refine md_if ?_ ?_
      ·
        exact hk14 _ _ _
      ·
        exact hk14 _ _ _
theorem mX3_pairChance (x0 x1 x2 : Int) (u0 : zMem) : zMd [701, 702, 703] u0 u0 (fX3_pairChance x0 x1 x2 u0) := by
  unfold fX3_pairChance
  refine zlp_ind (fun (f : Int → Int → zMem → zRs) => ∀ (v1 : Int) (v2 : Int) (u3 : zMem), zMd [701, 702, 703] u0 u3 (f v1 v2 u3)) (fun _ _ _ => md_none) (fun k4 hk4 v1 v2 u3 => ?_) _ _ _ _
  refine md_gf (fun v5 => ?_)
  refine md_vc (mX5_size v5 u3) (by decide) (fun v6 u7 => ?_)
  refine md_if ?_ ?_
  ·
    exact md_ret
  ·
    refine md_vc (mX3_heedOf x0 x1 v2 u7) (by decide) (fun v8 u9 => ?_)
    refine md_vc (mX3_heedOf x0 x2 v2 u9) (by decide) (fun v10 u11 => ?_)
    exact hk4 _ _ _
theorem mX3_bestPair (x0 : Int) (u0 : zMem) : zMd [701, 702, 703] u0 u0 (fX3_bestPair x0 u0) := by
  unfold fX3_bestPair
  refine zlp_ind (fun (f : Int → Int → Int → zMem → zRs) => ∀ (v1 : Int) (v2 : Int) (v3 : Int) (u4 : zMem), zMd [701, 702, 703] u0 u4 (f v1 v2 v3 u4)) (fun _ _ _ _ => md_none) (fun k5 hk5 v1 v2 v3 u4 => ?_) _ _ _ _ _
  refine md_gf (fun v6 => ?_)
  refine md_if ?_ ?_
  ·
    exact md_ret
  ·
    refine zlp_ind (fun (f : Int → Int → Int → zMem → zRs) => ∀ (v7 : Int) (v8 : Int) (v9 : Int) (u10 : zMem), zMd [701, 702, 703] u0 u10 (f v7 v8 v9 u10)) (fun _ _ _ _ => md_none) (fun k11 hk11 v7 v8 v9 u10 => ?_) _ _ _ _ _
    refine md_gf (fun v12 => ?_)
    refine md_if ?_ ?_
    ·
      exact hk5 _ _ _ _
    ·
      refine md_vc (mX3_pairChance x0 v3 v9 u10) (by decide) (fun v13 u14 => ?_)
      refine md_jn (P := fun (f : Int → Int → zMem → zRs) => ∀ (v15 : Int) (v16 : Int) (u17 : zMem), zMd [701, 702, 703] u0 u17 (f v15 v16 u17)) (fun v15 v16 u17 => ?_) (fun k18 hk18 => ?_)
      ·
        exact hk11 _ _ _ _
      ·
        refine md_if ?_ ?_
        ·
          exact hk18 _ _ _
        ·
          exact hk18 _ _ _
theorem mX5_append (x0 x1 x2 x3 x4 : Int) (u0 : zMem) : zMd [500, 501] u0 u0 (fX5_append x0 x1 x2 x3 x4 u0) := by
  unfold fX5_append
  refine md_call (mX5_fits 0 x1 u0) (by decide) (fun v1 u2 => ?_)
  refine md_if ?_ ?_
  ·
    exact md_ret
  ·
    refine md_call (mX5_fits 1 x2 u2) (by decide) (fun v3 u4 => ?_)
    refine md_if ?_ ?_
    ·
      exact md_ret
    ·
      refine md_call (mX5_fits 2 x3 u4) (by decide) (fun v5 u6 => ?_)
      refine md_if ?_ ?_
      ·
        exact md_ret
      ·
        refine md_call (mX5_fits 3 x4 u6) (by decide) (fun v7 u8 => ?_)
        refine md_if ?_ ?_
        ·
          refine md_gf (fun v9 => ?_)
          refine md_if ?_ ?_
          ·
            refine md_gfA (by decide +kernel) (by decide) (fun v10 ov10 => ?_)
            refine md_aldR ov10 (fun v11 ov11 => ?_)
            refine md_gf (fun v12 => ?_)
            refine md_ast ov11 (by decide) (by decide) (fun u13 => ?_)
            refine md_gfA (by decide +kernel) (by decide) (fun v14 ov14 => ?_)
            refine md_aldR ov14 (fun v15 ov15 => ?_)
            refine md_gf (fun v16 => ?_)
            refine md_ast ov15 (by decide) (by decide) (fun u17 => ?_)
            refine md_gfA (by decide +kernel) (by decide) (fun v18 ov18 => ?_)
            refine md_aldR ov18 (fun v19 ov19 => ?_)
            refine md_gf (fun v20 => ?_)
            refine md_ast ov19 (by decide) (by decide) (fun u21 => ?_)
            refine md_gfA (by decide +kernel) (by decide) (fun v22 ov22 => ?_)
            refine md_aldR ov22 (fun v23 ov23 => ?_)
            refine md_gf (fun v24 => ?_)
            refine md_ast ov23 (by decide) (by decide) (fun u25 => ?_)
            refine md_gf (fun v26 => ?_)
            refine md_pf (by decide) (by decide) (by decide) (fun u27 => ?_)
            refine md_gf (fun v28 => ?_)
            exact md_ret
          ·
            exact md_ret
        ·
          exact md_ret
theorem mX6_total (x0 : Int) (u0 : zMem) : zMd [] u0 u0 (fX6_total x0 u0) := by
  unfold fX6_total
  refine zlp_ind (fun (f : Int → Int → zMem → zRs) => ∀ (v1 : Int) (v2 : Int) (u3 : zMem), zMd [] u0 u3 (f v1 v2 u3)) (fun _ _ _ => md_none) (fun k4 hk4 v1 v2 u3 => ?_) _ _ _ _
  refine md_gf (fun v5 => ?_)
  refine md_if ?_ ?_
  ·
    exact md_ret
  ·
    refine md_gfA (by decide +kernel) (by decide) (fun v6 ov6 => ?_)
    refine md_aldR ov6 (fun v7 ov7 => ?_)
    refine md_ald (fun v8 => ?_)
    exact hk4 _ _ _
theorem mX6_markAdded (x0 x1 : Int) (u0 : zMem) : zMd [600] u0 u0 (fX6_markAdded x0 x1 u0) := by
  unfold fX6_markAdded
  refine md_vc (mX6_hasPlace x0 x1 u0) (by decide) (fun v1 u2 => ?_)
  refine md_if ?_ ?_
  ·
    exact md_ret
  ·
    refine md_gfA (by decide +kernel) (by decide) (fun v3 ov3 => ?_)
    refine md_aldR ov3 (fun v4 ov4 => ?_)
    refine md_ast ov4 (by decide) (by decide) (fun u5 => ?_)
    exact md_ret
theorem mX6_hear (x0 x1 x2 : Int) (u0 : zMem) : zMd [600, 601] u0 u0 (fX6_hear x0 x1 x2 u0) := by
  unfold fX6_hear
  refine md_gf (fun v1 => ?_)
  refine md_gf (fun v2 => ?_)
  refine zlp_ind (fun (f : Int → zMem → zRs) => ∀ (v3 : Int) (u4 : zMem), zMd [600, 601] u0 u4 (f v3 u4)) (fun _ _ => md_none) (fun k5 hk5 v3 u4 => ?_) _ _ _
  refine md_if ?_ ?_
  ·
    refine md_gf (fun v6 => ?_)
    exact md_ret
  ·
    refine md_gfA (by decide +kernel) (by decide) (fun v7 ov7 => ?_)
    refine md_aldR ov7 (fun v8 ov8 => ?_)
    refine md_ald (fun v9 => ?_)
    refine md_vc (mX5_part x1 v9 0 u4) (by decide) (fun v10 u11 => ?_)
    refine md_jn (P := fun (f : zMem → zRs) => ∀ (u12 : zMem), zMd [600, 601] u0 u12 (f u12)) (fun u12 => ?_) (fun k13 hk13 => ?_)
    ·
      exact hk5 _ _
    ·
      refine md_if ?_ ?_
      ·
        refine md_gfA (by decide +kernel) (by decide) (fun v14 ov14 => ?_)
        refine md_aldR ov14 (fun v15 ov15 => ?_)
        refine md_ald (fun v16 => ?_)
        refine md_if ?_ ?_
        ·
          refine md_gfA (by decide +kernel) (by decide) (fun v17 ov17 => ?_)
          refine md_aldR ov17 (fun v18 ov18 => ?_)
          refine md_gfA (by decide +kernel) (by decide) (fun v19 ov19 => ?_)
          refine md_aldR ov19 (fun v20 ov20 => ?_)
          refine md_ald (fun v21 => ?_)
          refine md_ast ov18 (by decide) (by decide) (fun u22 => ?_)
          exact hk13 _
        ·
          refine md_vc (mX6_drop x0 v3 u11) (by decide) (fun _ u23 => ?_)
          exact hk13 _
      ·
        exact hk13 _
theorem mX6_shortest (x0 : Int) (u0 : zMem) : zMd [] u0 u0 (fX6_shortest x0 u0) := by
  unfold fX6_shortest
  refine zlp_ind (fun (f : Int → Int → zMem → zRs) => ∀ (v1 : Int) (v2 : Int) (u3 : zMem), zMd [] u0 u3 (f v1 v2 u3)) (fun _ _ _ => md_none) (fun k4 hk4 v1 v2 u3 => ?_) _ _ _ _
  refine md_gf (fun v5 => ?_)
  refine md_if ?_ ?_
  ·
    exact md_ret
  ·
    refine md_gfA (by decide +kernel) (by decide) (fun v6 ov6 => ?_)
    refine md_aldR ov6 (fun v7 ov7 => ?_)
    refine md_ald (fun v8 => ?_)
    refine md_gfA (by decide +kernel) (by decide) (fun v9 ov9 => ?_)
    refine md_aldR ov9 (fun v10 ov10 => ?_)
    refine md_ald (fun v11 => ?_)
    refine md_jn (P := fun (f : Int → zMem → zRs) => ∀ (v12 : Int) (u13 : zMem), zMd [] u0 u13 (f v12 u13)) (fun v12 u13 => ?_) (fun k14 hk14 => ?_)
    ·
      exact hk4 _ _ _
    ·
      refine md_if ?_ ?_
      ·
        exact hk14 _ _
      ·
        exact hk14 _ _
theorem mX6_shorten (x0 x1 : Int) (u0 : zMem) : zMd [600, 601] u0 u0 (fX6_shorten x0 x1 u0) := by
  unfold fX6_shorten
  refine md_gf (fun v1 => ?_)
  refine zlp_ind (fun (f : Int → zMem → zRs) => ∀ (v2 : Int) (u3 : zMem), zMd [600, 601] u0 u3 (f v2 u3)) (fun _ _ => md_none) (fun k4 hk4 v2 u3 => ?_) _ _ _
  refine md_if ?_ ?_
  ·
    exact md_ret
  ·
    refine md_vc (mX6_shortest x0 u3) (by decide) (fun v5 u6 => ?_)
    refine md_vc (mX6_drop x0 v5 u6) (by decide) (fun _ u7 => ?_)
    exact hk4 _ _
theorem mX8_isRowSort (x0 : Int) (u0 : zMem) : zMd [] u0 u0 (fX8_isRowSort x0 u0) := by
  unfold fX8_isRowSort
  refine md_jn (P := fun (f : zMem → zRs) => ∀ (u1 : zMem), zMd [] u0 u1 (f u1)) (fun u1 => ?_) (fun k2 hk2 => ?_)
  ·
    exact md_bl md_ret
  ·
    refine md_if ?_ ?_
    ·
      exact hk2 _
    ·
      refine md_if ?_ ?_
      ·
        exact hk2 _
      ·
        exact md_bl md_ret
theorem mX8_isBare (x0 : Int) (u0 : zMem) : zMd [] u0 u0 (fX8_isBare x0 u0) := by
  unfold fX8_isBare
  refine md_gf (fun v1 => ?_)
  refine md_jn (P := fun (f : zMem → zRs) => ∀ (u2 : zMem), zMd [] u0 u2 (f u2)) (fun u2 => ?_) (fun k3 hk3 => ?_)
  ·
    exact md_bl md_ret
  ·
    refine md_if ?_ ?_
    ·
      exact hk3 _
    ·
      refine md_gf (fun v4 => ?_)
      refine md_if ?_ ?_
      ·
        exact hk3 _
      ·
        exact md_bl md_ret
theorem mX8_holdsRow (x0 : Int) (u0 : zMem) : zMd [] u0 u0 (fX8_holdsRow x0 u0) := by
  unfold fX8_holdsRow
  refine md_gf (fun v1 => ?_)
  refine md_if ?_ ?_
  ·
    exact md_bl md_ret
  ·
    exact md_bl md_ret
theorem mX8_holdsBytes (x0 : Int) (u0 : zMem) : zMd [] u0 u0 (fX8_holdsBytes x0 u0) := by
  unfold fX8_holdsBytes
  refine md_gf (fun v1 => ?_)
  refine md_if ?_ ?_
  ·
    exact md_bl md_ret
  ·
    exact md_bl md_ret
theorem mX8_heldBody (x0 : Int) (u0 : zMem) : zMd [] u0 u0 (fX8_heldBody x0 u0) := by
  unfold fX8_heldBody
  refine md_gf (fun v1 => ?_)
  exact md_ret
theorem mX8_sort (x0 : Int) (u0 : zMem) : zMd [] u0 u0 (fX8_sort x0 u0) := by
  unfold fX8_sort
  refine md_gf (fun v1 => ?_)
  exact md_ret
theorem mX8_length (x0 : Int) (u0 : zMem) : zMd [] u0 u0 (fX8_length x0 u0) := by
  unfold fX8_length
  refine md_gf (fun v1 => ?_)
  exact md_ret
theorem mX8_holdBody (x0 x1 : Int) (u0 : zMem) : zMd [801, 802, 803] u0 u0 (fX8_holdBody x0 x1 u0) := by
  unfold fX8_holdBody
  refine md_pf (by decide) (by decide) (by decide) (fun u1 => ?_)
  refine md_pf (by decide) (by decide) (by decide) (fun u2 => ?_)
  refine md_pf (by decide) (by decide) (by decide) (fun u3 => ?_)
  exact md_ret
theorem mX8_holdRow (x0 x1 x2 : Int) (u0 : zMem) : zMd [800, 801, 802, 803] u0 u0 (fX8_holdRow x0 x1 x2 u0) := by
  unfold fX8_holdRow
  refine md_pf (by decide) (by decide) (by decide) (fun u1 => ?_)
  refine md_pf (by decide) (by decide) (by decide) (fun u2 => ?_)
  refine md_pf (by decide) (by decide) (by decide) (fun u3 => ?_)
  refine zlp_ind (fun (f : Int → zMem → zRs) => ∀ (v4 : Int) (u5 : zMem), zMd [800, 801, 802, 803] u0 u5 (f v4 u5)) (fun _ _ => md_none) (fun k6 hk6 v4 u5 => ?_) _ _ _
  refine md_gf (fun v7 => ?_)
  refine md_if ?_ ?_
  ·
    exact md_ret
  ·
    refine md_gfA (by decide +kernel) (by decide) (fun v8 ov8 => ?_)
    refine md_ast ov8 (by decide) (by decide) (fun u9 => ?_)
    exact hk6 _ _
theorem mX8_hasRange (x0 x1 x2 : Int) (u0 : zMem) : zMd [] u0 u0 (fX8_hasRange x0 x1 x2 u0) := by
  unfold fX8_hasRange
  refine md_jn (P := fun (f : zMem → zRs) => ∀ (u1 : zMem), zMd [] u0 u1 (f u1)) (fun u1 => ?_) (fun k2 hk2 => ?_)
  ·
    exact md_bl md_ret
  ·
    refine md_if ?_ ?_
    ·
      exact hk2 _
    ·
      refine md_if ?_ ?_
      ·
        exact hk2 _
      ·
        refine md_gf (fun v3 => ?_)
        refine md_if ?_ ?_
        ·
          exact hk2 _
        ·
          exact md_bl md_ret
theorem mX8_at (x0 x1 : Int) (u0 : zMem) : zMd [] u0 u0 (fX8_at x0 x1 u0) := by
  unfold fX8_at
  refine md_vc (mX8_hasRange x0 x1 1 u0) (by decide) (fun v1 u2 => ?_)
  refine md_if ?_ ?_
  ·
    exact md_ret
  ·
    refine md_gfA (by decide +kernel) (by decide) (fun v3 ov3 => ?_)
    refine md_ald (fun v4 => ?_)
    exact md_ret
theorem mX8_lowest (x0 x1 : Int) (u0 : zMem) : zMd [] u0 u0 (fX8_lowest x0 x1 u0) := by
  unfold fX8_lowest
  refine md_gf (fun v1 => ?_)
  refine md_if ?_ ?_
  ·
    exact md_ret
  ·
    refine md_if ?_ ?_
    ·
      exact md_ret
    ·
      refine md_if ?_ ?_
      ·
        exact md_ret
      ·
        refine md_if ?_ ?_
        ·
          exact md_ret
        ·
          refine md_if ?_ ?_
          ·
            exact md_ret
          ·
            exact md_ret
theorem mX8_set (x0 x1 x2 : Int) (u0 : zMem) : zMd [800] u0 u0 (fX8_set x0 x1 x2 u0) := by
  unfold fX8_set
  refine md_vc (mX8_hasRange x0 x1 1 u0) (by decide) (fun v1 u2 => ?_)
  refine md_if ?_ ?_
  ·
    exact md_ret
  ·
    refine md_gfA (by decide +kernel) (by decide) (fun v3 ov3 => ?_)
    refine md_vc (mX8_lowest x0 x2 u2) (by decide) (fun v4 u5 => ?_)
    refine md_ast ov3 (by decide) (by decide) (fun u6 => ?_)
    exact md_ret
theorem mX8_copyTo (x0 x1 x2 x3 x4 : Int) (u0 : zMem) : zMd [800] u0 u0 (fX8_copyTo x0 x1 x2 x3 x4 u0) := by
  unfold fX8_copyTo
  refine md_vc (mX8_hasRange x0 x1 x4 u0) (by decide) (fun v1 u2 => ?_)
  refine md_if ?_ ?_
  ·
    exact md_ret
  ·
    refine md_vc (mX8_hasRange x2 x3 x4 u2) (by decide) (fun v3 u4 => ?_)
    refine md_if ?_ ?_
    ·
      exact md_ret
    ·
      refine md_gfA (by decide +kernel) (by decide) (fun v5 ov5 => ?_)
      refine md_gfA (by decide +kernel) (by decide) (fun v6 ov6 => ?_)
      refine md_copy ov6 (by decide) (by decide) (fun u7 => ?_)
      exact md_ret
theorem mX9_length (x0 : Int) (u0 : zMem) : zMd [] u0 u0 (fX9_length x0 u0) := by
  unfold fX9_length
  refine md_gf (fun v1 => ?_)
  exact md_ret
theorem mX9_append (x0 x1 : Int) (u0 : zMem) : zMd [900, 902] u0 u0 (fX9_append x0 x1 u0) := by
  unfold fX9_append
  refine md_gf (fun v1 => ?_)
  refine md_if ?_ ?_
  ·
    refine md_gfA (by decide +kernel) (by decide) (fun v2 ov2 => ?_)
    refine md_gf (fun v3 => ?_)
    refine md_ast ov2 (by decide) (by decide) (fun u4 => ?_)
    refine md_gf (fun v5 => ?_)
    refine md_pf (by decide) (by decide) (by decide) (fun u6 => ?_)
    exact md_bl md_ret
  ·
    exact md_bl md_ret
theorem mX9_clear (x0 : Int) (u0 : zMem) : zMd [902] u0 u0 (fX9_clear x0 u0) := by
  unfold fX9_clear
  refine md_pf (by decide) (by decide) (by decide) (fun u1 => ?_)
  exact md_ret
theorem mX9_sign (x0 : Int) (u0 : zMem) : zMd [] u0 u0 (fX9_sign x0 u0) := by
  unfold fX9_sign
  refine md_gf (fun v1 => ?_)
  refine md_jn (P := fun (f : zMem → zRs) => ∀ (u2 : zMem), zMd [] u0 u2 (f u2)) (fun u2 => ?_) (fun k3 hk3 => ?_)
  ·
    exact md_ret
  ·
    refine md_if ?_ ?_
    ·
      exact hk3 _
    ·
      refine md_gf (fun v4 => ?_)
      refine md_gf (fun v5 => ?_)
      refine md_if ?_ ?_
      ·
        exact hk3 _
      ·
        refine md_gfA (by decide +kernel) (by decide) (fun v6 ov6 => ?_)
        refine md_gf (fun v7 => ?_)
        refine md_ald (fun v8 => ?_)
        exact md_ret
theorem mX9_isDigit (x0 : Int) (u0 : zMem) : zMd [] u0 u0 (fX9_isDigit x0 u0) := by
  unfold fX9_isDigit
  refine md_jn (P := fun (f : zMem → zRs) => ∀ (u1 : zMem), zMd [] u0 u1 (f u1)) (fun u1 => ?_) (fun k2 hk2 => ?_)
  ·
    exact md_bl md_ret
  ·
    refine md_if ?_ ?_
    ·
      exact hk2 _
    ·
      refine md_if ?_ ?_
      ·
        exact hk2 _
      ·
        exact md_bl md_ret
theorem mX9_code (x0 x1 : Int) (u0 : zMem) : zMd [901, 903] u0 u0 (fX9_code x0 x1 u0) := by
  unfold fX9_code
  refine md_gf (fun v1 => ?_)
  refine md_if ?_ ?_
  ·
    exact md_ret
  ·
    refine md_gfA (by decide +kernel) (by decide) (fun v2 ov2 => ?_)
    refine md_gf (fun v3 => ?_)
    refine md_ast ov2 (by decide) (by decide) (fun u4 => ?_)
    refine md_gf (fun v5 => ?_)
    refine md_pf (by decide) (by decide) (by decide) (fun u6 => ?_)
    exact md_ret
theorem mX9_number (x0 : Int) (u0 : zMem) : zMd [901, 903, 904] u0 u0 (fX9_number x0 u0) := by
  unfold fX9_number
  refine zlp_ind (fun (f : Int → Int → zMem → zRs) => ∀ (v1 : Int) (v2 : Int) (u3 : zMem), zMd [901, 903, 904] u0 u3 (f v1 v2 u3)) (fun _ _ _ => md_none) (fun k4 hk4 v1 v2 u3 => ?_) _ _ _ _
  refine md_jn (P := fun (f : zMem → zRs) => ∀ (u5 : zMem), zMd [901, 903, 904] u0 u5 (f u5)) (fun u5 => ?_) (fun k6 hk6 => ?_)
  ·
    refine md_vc (mX9_code x0 v1 u5) (by decide) (fun _ u7 => ?_)
    exact md_ret
  ·
    refine md_if ?_ ?_
    ·
      exact hk6 _
    ·
      refine md_vc (mX9_sign x0 u3) (by decide) (fun v8 u9 => ?_)
      refine md_call (mX9_isDigit v8 u9) (by decide) (fun v10 u11 => ?_)
      refine md_if ?_ ?_
      ·
        exact hk6 _
      ·
        refine md_vc (mX9_sign x0 u11) (by decide) (fun v12 u13 => ?_)
        refine md_gf (fun v14 => ?_)
        refine md_pf (by decide) (by decide) (by decide) (fun u15 => ?_)
        exact hk4 _ _ _
theorem mX9_emit (x0 x1 : Int) (u0 : zMem) : zMd [901, 903] u0 u0 (fX9_emit x0 x1 u0) := by
  unfold fX9_emit
  refine md_vc (mX9_code x0 (zw32 (10000 + x1)) u0) (by decide) (fun _ u1 => ?_)
  exact md_ret
theorem mX9_passes (x0 x1 : Int) (u0 : zMem) : zMd [904] u0 u0 (fX9_passes x0 x1 u0) := by
  unfold fX9_passes
  refine md_vc (mX9_sign x0 u0) (by decide) (fun v1 u2 => ?_)
  refine md_if ?_ ?_
  ·
    refine md_gf (fun v3 => ?_)
    refine md_pf (by decide) (by decide) (by decide) (fun u4 => ?_)
    exact md_bl md_ret
  ·
    exact md_bl md_ret
theorem mX9_fail (x0 : Int) (u0 : zMem) : zMd [905] u0 u0 (fX9_fail x0 u0) := by
  unfold fX9_fail
  refine md_gf (fun v1 => ?_)
  refine md_if ?_ ?_
  ·
    exact md_ret
  ·
    refine md_gf (fun v2 => ?_)
    refine md_pf (by decide) (by decide) (by decide) (fun u3 => ?_)
    exact md_ret
theorem mX9_passesOneOf (x0 x1 x2 x3 : Int) (u0 : zMem) : zMd [904] u0 u0 (fX9_passesOneOf x0 x1 x2 x3 u0) := by
  unfold fX9_passesOneOf
  refine md_vc (mX9_sign x0 u0) (by decide) (fun v1 u2 => ?_)
  refine md_jn (P := fun (f : zMem → zRs) => ∀ (u3 : zMem), zMd [904] u0 u3 (f u3)) (fun u3 => ?_) (fun k4 hk4 => ?_)
  ·
    exact md_ret
  ·
    refine md_if ?_ ?_
    ·
      exact hk4 _
    ·
      refine md_jn (P := fun (f : zMem → zRs) => ∀ (u5 : zMem), zMd [904] u0 u5 (f u5)) (fun u5 => ?_) (fun k6 hk6 => ?_)
      ·
        refine md_vc (mX9_passes x0 v1 u5) (by decide) (fun v7 u8 => ?_)
        refine md_if ?_ ?_
        ·
          exact hk4 _
        ·
          exact md_ret
      ·
        refine md_if ?_ ?_
        ·
          exact hk6 _
        ·
          refine md_if ?_ ?_
          ·
            exact hk6 _
          ·
            refine md_if ?_ ?_
            ·
              exact hk4 _
            ·
              exact hk6 _
theorem gX9_either_m0 (rec : (Int → Int → zMem → zRs) × (Int → Int → zMem → zRs) × (Int → Int → zMem → zRs) × (Int → Int → zMem → zRs) × (Int → Int → zMem → zRs) × (Int → Int → zMem → zRs)) (ih : (∀ (x0 x1 : Int) (u0 : zMem), zMd [901, 903, 904, 905] u0 u0 (rec.1 x0 x1 u0)) ∧ (∀ (x0 x1 : Int) (u0 : zMem), zMd [901, 903, 904, 905] u0 u0 (rec.2.1 x0 x1 u0)) ∧ (∀ (x0 x1 : Int) (u0 : zMem), zMd [901, 903, 904, 905] u0 u0 (rec.2.2.1 x0 x1 u0)) ∧ (∀ (x0 x1 : Int) (u0 : zMem), zMd [901, 903, 904, 905] u0 u0 (rec.2.2.2.1 x0 x1 u0)) ∧ (∀ (x0 x1 : Int) (u0 : zMem), zMd [901, 903, 904, 905] u0 u0 (rec.2.2.2.2.1 x0 x1 u0)) ∧ (∀ (x0 x1 : Int) (u0 : zMem), zMd [901, 903, 904, 905] u0 u0 (rec.2.2.2.2.2 x0 x1 u0))) : ∀ (x0 x1 : Int) (u0 : zMem), zMd [901, 903, 904, 905] u0 u0 (gX9_either_b0 rec x0 x1 u0) := by
  intro x0 x1 u0
  unfold gX9_either_b0
  refine md_vc (ih.2.1 x0 x1 u0) (fun _ h => h) (fun _ u1 => ?_)
  refine zlp_ind (fun (f : Int → zMem → zRs) => ∀ (v2 : Int) (u3 : zMem), zMd [901, 903, 904, 905] u0 u3 (f v2 u3)) (fun _ _ => md_none) (fun k4 hk4 v2 u3 => ?_) _ _ _
  refine md_if ?_ ?_
  ·
    exact md_ret
  ·
    refine md_vc (mX9_passes x0 124 u3) (by decide) (fun v5 u6 => ?_)
    refine md_if ?_ ?_
    ·
      exact md_ret
    ·
      refine md_vc (ih.2.1 x0 x1 u6) (fun _ h => h) (fun _ u7 => ?_)
      refine md_vc (mX9_emit x0 124 u7) (by decide) (fun _ u8 => ?_)
      exact hk4 _ _
theorem gX9_either_m1 (rec : (Int → Int → zMem → zRs) × (Int → Int → zMem → zRs) × (Int → Int → zMem → zRs) × (Int → Int → zMem → zRs) × (Int → Int → zMem → zRs) × (Int → Int → zMem → zRs)) (ih : (∀ (x0 x1 : Int) (u0 : zMem), zMd [901, 903, 904, 905] u0 u0 (rec.1 x0 x1 u0)) ∧ (∀ (x0 x1 : Int) (u0 : zMem), zMd [901, 903, 904, 905] u0 u0 (rec.2.1 x0 x1 u0)) ∧ (∀ (x0 x1 : Int) (u0 : zMem), zMd [901, 903, 904, 905] u0 u0 (rec.2.2.1 x0 x1 u0)) ∧ (∀ (x0 x1 : Int) (u0 : zMem), zMd [901, 903, 904, 905] u0 u0 (rec.2.2.2.1 x0 x1 u0)) ∧ (∀ (x0 x1 : Int) (u0 : zMem), zMd [901, 903, 904, 905] u0 u0 (rec.2.2.2.2.1 x0 x1 u0)) ∧ (∀ (x0 x1 : Int) (u0 : zMem), zMd [901, 903, 904, 905] u0 u0 (rec.2.2.2.2.2 x0 x1 u0))) : ∀ (x0 x1 : Int) (u0 : zMem), zMd [901, 903, 904, 905] u0 u0 (gX9_either_b1 rec x0 x1 u0) := by
  intro x0 x1 u0
  unfold gX9_either_b1
  refine md_vc (ih.2.2.1 x0 x1 u0) (fun _ h => h) (fun _ u1 => ?_)
  refine zlp_ind (fun (f : Int → zMem → zRs) => ∀ (v2 : Int) (u3 : zMem), zMd [901, 903, 904, 905] u0 u3 (f v2 u3)) (fun _ _ => md_none) (fun k4 hk4 v2 u3 => ?_) _ _ _
  refine md_if ?_ ?_
  ·
    exact md_ret
  ·
    refine md_vc (mX9_passes x0 38 u3) (by decide) (fun v5 u6 => ?_)
    refine md_if ?_ ?_
    ·
      exact md_ret
    ·
      refine md_vc (ih.2.2.1 x0 x1 u6) (fun _ h => h) (fun _ u7 => ?_)
      refine md_vc (mX9_emit x0 38 u7) (by decide) (fun _ u8 => ?_)
      exact hk4 _ _
theorem gX9_either_m2 (rec : (Int → Int → zMem → zRs) × (Int → Int → zMem → zRs) × (Int → Int → zMem → zRs) × (Int → Int → zMem → zRs) × (Int → Int → zMem → zRs) × (Int → Int → zMem → zRs)) (ih : (∀ (x0 x1 : Int) (u0 : zMem), zMd [901, 903, 904, 905] u0 u0 (rec.1 x0 x1 u0)) ∧ (∀ (x0 x1 : Int) (u0 : zMem), zMd [901, 903, 904, 905] u0 u0 (rec.2.1 x0 x1 u0)) ∧ (∀ (x0 x1 : Int) (u0 : zMem), zMd [901, 903, 904, 905] u0 u0 (rec.2.2.1 x0 x1 u0)) ∧ (∀ (x0 x1 : Int) (u0 : zMem), zMd [901, 903, 904, 905] u0 u0 (rec.2.2.2.1 x0 x1 u0)) ∧ (∀ (x0 x1 : Int) (u0 : zMem), zMd [901, 903, 904, 905] u0 u0 (rec.2.2.2.2.1 x0 x1 u0)) ∧ (∀ (x0 x1 : Int) (u0 : zMem), zMd [901, 903, 904, 905] u0 u0 (rec.2.2.2.2.2 x0 x1 u0))) : ∀ (x0 x1 : Int) (u0 : zMem), zMd [901, 903, 904, 905] u0 u0 (gX9_either_b2 rec x0 x1 u0) := by
  intro x0 x1 u0
  unfold gX9_either_b2
  refine md_vc (ih.2.2.2.1 x0 x1 u0) (fun _ h => h) (fun _ u1 => ?_)
  refine md_vc (mX9_passesOneOf x0 60 61 62 u1) (by decide) (fun v2 u3 => ?_)
  refine md_if ?_ ?_
  ·
    exact md_ret
  ·
    refine md_vc (ih.2.2.2.1 x0 x1 u3) (fun _ h => h) (fun _ u4 => ?_)
    refine md_vc (mX9_emit x0 v2 u4) (by decide) (fun _ u5 => ?_)
    exact md_ret
theorem gX9_either_m3 (rec : (Int → Int → zMem → zRs) × (Int → Int → zMem → zRs) × (Int → Int → zMem → zRs) × (Int → Int → zMem → zRs) × (Int → Int → zMem → zRs) × (Int → Int → zMem → zRs)) (ih : (∀ (x0 x1 : Int) (u0 : zMem), zMd [901, 903, 904, 905] u0 u0 (rec.1 x0 x1 u0)) ∧ (∀ (x0 x1 : Int) (u0 : zMem), zMd [901, 903, 904, 905] u0 u0 (rec.2.1 x0 x1 u0)) ∧ (∀ (x0 x1 : Int) (u0 : zMem), zMd [901, 903, 904, 905] u0 u0 (rec.2.2.1 x0 x1 u0)) ∧ (∀ (x0 x1 : Int) (u0 : zMem), zMd [901, 903, 904, 905] u0 u0 (rec.2.2.2.1 x0 x1 u0)) ∧ (∀ (x0 x1 : Int) (u0 : zMem), zMd [901, 903, 904, 905] u0 u0 (rec.2.2.2.2.1 x0 x1 u0)) ∧ (∀ (x0 x1 : Int) (u0 : zMem), zMd [901, 903, 904, 905] u0 u0 (rec.2.2.2.2.2 x0 x1 u0))) : ∀ (x0 x1 : Int) (u0 : zMem), zMd [901, 903, 904, 905] u0 u0 (gX9_either_b3 rec x0 x1 u0) := by
  intro x0 x1 u0
  unfold gX9_either_b3
  refine md_vc (ih.2.2.2.2.1 x0 x1 u0) (fun _ h => h) (fun _ u1 => ?_)
  refine md_vc (mX9_passesOneOf x0 43 45 45 u1) (by decide) (fun v2 u3 => ?_)
  refine zlp_ind (fun (f : Int → Int → zMem → zRs) => ∀ (v4 : Int) (v5 : Int) (u6 : zMem), zMd [901, 903, 904, 905] u0 u6 (f v4 v5 u6)) (fun _ _ _ => md_none) (fun k7 hk7 v4 v5 u6 => ?_) _ _ _ _
  refine md_if ?_ ?_
  ·
    exact md_ret
  ·
    refine md_if ?_ ?_
    ·
      exact md_ret
    ·
      refine md_vc (ih.2.2.2.2.1 x0 x1 u6) (fun _ h => h) (fun _ u8 => ?_)
      refine md_vc (mX9_emit x0 v4 u8) (by decide) (fun _ u9 => ?_)
      refine md_vc (mX9_passesOneOf x0 43 45 45 u9) (by decide) (fun v10 u11 => ?_)
      exact hk7 _ _ _
theorem gX9_either_m4 (rec : (Int → Int → zMem → zRs) × (Int → Int → zMem → zRs) × (Int → Int → zMem → zRs) × (Int → Int → zMem → zRs) × (Int → Int → zMem → zRs) × (Int → Int → zMem → zRs)) (ih : (∀ (x0 x1 : Int) (u0 : zMem), zMd [901, 903, 904, 905] u0 u0 (rec.1 x0 x1 u0)) ∧ (∀ (x0 x1 : Int) (u0 : zMem), zMd [901, 903, 904, 905] u0 u0 (rec.2.1 x0 x1 u0)) ∧ (∀ (x0 x1 : Int) (u0 : zMem), zMd [901, 903, 904, 905] u0 u0 (rec.2.2.1 x0 x1 u0)) ∧ (∀ (x0 x1 : Int) (u0 : zMem), zMd [901, 903, 904, 905] u0 u0 (rec.2.2.2.1 x0 x1 u0)) ∧ (∀ (x0 x1 : Int) (u0 : zMem), zMd [901, 903, 904, 905] u0 u0 (rec.2.2.2.2.1 x0 x1 u0)) ∧ (∀ (x0 x1 : Int) (u0 : zMem), zMd [901, 903, 904, 905] u0 u0 (rec.2.2.2.2.2 x0 x1 u0))) : ∀ (x0 x1 : Int) (u0 : zMem), zMd [901, 903, 904, 905] u0 u0 (gX9_either_b4 rec x0 x1 u0) := by
  intro x0 x1 u0
  unfold gX9_either_b4
  refine md_vc (ih.2.2.2.2.2 x0 x1 u0) (fun _ h => h) (fun _ u1 => ?_)
  refine md_vc (mX9_passesOneOf x0 42 47 37 u1) (by decide) (fun v2 u3 => ?_)
  refine zlp_ind (fun (f : Int → Int → zMem → zRs) => ∀ (v4 : Int) (v5 : Int) (u6 : zMem), zMd [901, 903, 904, 905] u0 u6 (f v4 v5 u6)) (fun _ _ _ => md_none) (fun k7 hk7 v4 v5 u6 => ?_) _ _ _ _
  refine md_if ?_ ?_
  ·
    exact md_ret
  ·
    refine md_if ?_ ?_
    ·
      exact md_ret
    ·
      refine md_vc (ih.2.2.2.2.2 x0 x1 u6) (fun _ h => h) (fun _ u8 => ?_)
      refine md_vc (mX9_emit x0 v4 u8) (by decide) (fun _ u9 => ?_)
      refine md_vc (mX9_passesOneOf x0 42 47 37 u9) (by decide) (fun v10 u11 => ?_)
      exact hk7 _ _ _
theorem gX9_either_m5 (rec : (Int → Int → zMem → zRs) × (Int → Int → zMem → zRs) × (Int → Int → zMem → zRs) × (Int → Int → zMem → zRs) × (Int → Int → zMem → zRs) × (Int → Int → zMem → zRs)) (ih : (∀ (x0 x1 : Int) (u0 : zMem), zMd [901, 903, 904, 905] u0 u0 (rec.1 x0 x1 u0)) ∧ (∀ (x0 x1 : Int) (u0 : zMem), zMd [901, 903, 904, 905] u0 u0 (rec.2.1 x0 x1 u0)) ∧ (∀ (x0 x1 : Int) (u0 : zMem), zMd [901, 903, 904, 905] u0 u0 (rec.2.2.1 x0 x1 u0)) ∧ (∀ (x0 x1 : Int) (u0 : zMem), zMd [901, 903, 904, 905] u0 u0 (rec.2.2.2.1 x0 x1 u0)) ∧ (∀ (x0 x1 : Int) (u0 : zMem), zMd [901, 903, 904, 905] u0 u0 (rec.2.2.2.2.1 x0 x1 u0)) ∧ (∀ (x0 x1 : Int) (u0 : zMem), zMd [901, 903, 904, 905] u0 u0 (rec.2.2.2.2.2 x0 x1 u0))) : ∀ (x0 x1 : Int) (u0 : zMem), zMd [901, 903, 904, 905] u0 u0 (gX9_either_b5 rec x0 x1 u0) := by
  intro x0 x1 u0
  unfold gX9_either_b5
  refine md_vc (mX9_sign x0 u0) (by decide) (fun v1 u2 => ?_)
  refine md_call (mX9_isDigit v1 u2) (by decide) (fun v3 u4 => ?_)
  refine md_if ?_ ?_
  ·
    refine md_call (mX9_nameOf v1 u4) (by decide) (fun v5 u6 => ?_)
    refine md_if ?_ ?_
    ·
      refine md_jn (P := fun (f : zMem → zRs) => ∀ (u7 : zMem), zMd [901, 903, 904, 905] u0 u7 (f u7)) (fun u7 => ?_) (fun k8 hk8 => ?_)
      ·
        refine md_jn (P := fun (f : zMem → zRs) => ∀ (u9 : zMem), zMd [901, 903, 904, 905] u0 u9 (f u9)) (fun u9 => ?_) (fun k10 hk10 => ?_)
        ·
          refine md_jn (P := fun (f : zMem → zRs) => ∀ (u11 : zMem), zMd [901, 903, 904, 905] u0 u11 (f u11)) (fun u11 => ?_) (fun k12 hk12 => ?_)
          ·
            refine md_vc (mX9_fail x0 u11) (by decide) (fun _ u13 => ?_)
            exact md_ret
          ·
            refine md_if ?_ ?_
            ·
              exact hk12 _
            ·
              refine md_vc (mX9_passes x0 45 u9) (by decide) (fun v14 u15 => ?_)
              refine md_if ?_ ?_
              ·
                exact hk12 _
              ·
                refine md_vc (ih.2.2.2.2.2 x0 (zw32 (x1 + 1)) u15) (fun _ h => h) (fun _ u16 => ?_)
                refine md_vc (mX9_emit x0 126 u16) (by decide) (fun _ u17 => ?_)
                exact md_ret
        ·
          refine md_if ?_ ?_
          ·
            exact hk10 _
          ·
            refine md_vc (mX9_passes x0 33 u7) (by decide) (fun v18 u19 => ?_)
            refine md_if ?_ ?_
            ·
              exact hk10 _
            ·
              refine md_vc (ih.2.2.2.2.2 x0 (zw32 (x1 + 1)) u19) (fun _ h => h) (fun _ u20 => ?_)
              refine md_vc (mX9_emit x0 33 u20) (by decide) (fun _ u21 => ?_)
              exact md_ret
      ·
        refine md_if ?_ ?_
        ·
          exact hk8 _
        ·
          refine md_vc (mX9_passes x0 40 u6) (by decide) (fun v22 u23 => ?_)
          refine md_if ?_ ?_
          ·
            exact hk8 _
          ·
            refine md_vc (ih.1 x0 (zw32 (x1 + 1)) u23) (fun _ h => h) (fun _ u24 => ?_)
            refine md_vc (mX9_passes x0 41 u24) (by decide) (fun v25 u26 => ?_)
            refine md_if ?_ ?_
            ·
              exact md_ret
            ·
              refine md_vc (mX9_fail x0 u26) (by decide) (fun _ u27 => ?_)
              exact md_ret
    ·
      refine md_gf (fun v28 => ?_)
      refine md_pf (by decide) (by decide) (by decide) (fun u29 => ?_)
      refine md_vc (mX9_emit x0 v1 u29) (by decide) (fun _ u30 => ?_)
      exact md_ret
  ·
    refine md_vc (mX9_number x0 u4) (by decide) (fun _ u31 => ?_)
    exact md_ret
theorem gX9_either_mall : ∀ n : Nat, (∀ (x0 x1 : Int) (u0 : zMem), zMd [901, 903, 904, 905] u0 u0 ((gX9_either n).1 x0 x1 u0)) ∧ (∀ (x0 x1 : Int) (u0 : zMem), zMd [901, 903, 904, 905] u0 u0 ((gX9_either n).2.1 x0 x1 u0)) ∧ (∀ (x0 x1 : Int) (u0 : zMem), zMd [901, 903, 904, 905] u0 u0 ((gX9_either n).2.2.1 x0 x1 u0)) ∧ (∀ (x0 x1 : Int) (u0 : zMem), zMd [901, 903, 904, 905] u0 u0 ((gX9_either n).2.2.2.1 x0 x1 u0)) ∧ (∀ (x0 x1 : Int) (u0 : zMem), zMd [901, 903, 904, 905] u0 u0 ((gX9_either n).2.2.2.2.1 x0 x1 u0)) ∧ (∀ (x0 x1 : Int) (u0 : zMem), zMd [901, 903, 904, 905] u0 u0 ((gX9_either n).2.2.2.2.2 x0 x1 u0))
  | 0 => ⟨fun _ _ _ => md_none, fun _ _ _ => md_none, fun _ _ _ => md_none, fun _ _ _ => md_none, fun _ _ _ => md_none, fun _ _ _ => md_none⟩
  | n + 1 => ⟨gX9_either_m0 (gX9_either n) (gX9_either_mall n), gX9_either_m1 (gX9_either n) (gX9_either_mall n), gX9_either_m2 (gX9_either n) (gX9_either_mall n), gX9_either_m3 (gX9_either n) (gX9_either_mall n), gX9_either_m4 (gX9_either n) (gX9_either_mall n), gX9_either_m5 (gX9_either n) (gX9_either_mall n)⟩
theorem mX9_either (x0 x1 : Int) (u0 : zMem) : zMd [901, 903, 904, 905] u0 u0 (fX9_either x0 x1 u0) := (gX9_either_mall 200).1 x0 x1 u0
theorem mX9_both (x0 x1 : Int) (u0 : zMem) : zMd [901, 903, 904, 905] u0 u0 (fX9_both x0 x1 u0) := (gX9_either_mall 200).2.1 x0 x1 u0
theorem mX9_compared (x0 x1 : Int) (u0 : zMem) : zMd [901, 903, 904, 905] u0 u0 (fX9_compared x0 x1 u0) := (gX9_either_mall 200).2.2.1 x0 x1 u0
theorem mX9_sum (x0 x1 : Int) (u0 : zMem) : zMd [901, 903, 904, 905] u0 u0 (fX9_sum x0 x1 u0) := (gX9_either_mall 200).2.2.2.1 x0 x1 u0
theorem mX9_product (x0 x1 : Int) (u0 : zMem) : zMd [901, 903, 904, 905] u0 u0 (fX9_product x0 x1 u0) := (gX9_either_mall 200).2.2.2.2.1 x0 x1 u0
theorem mX9_operand (x0 x1 : Int) (u0 : zMem) : zMd [901, 903, 904, 905] u0 u0 (fX9_operand x0 x1 u0) := (gX9_either_mall 200).2.2.2.2.2 x0 x1 u0
theorem mX9_line (x0 : Int) (u0 : zMem) : zMd [901, 903, 904, 905] u0 u0 (fX9_line x0 u0) := by
  unfold fX9_line
  refine md_vc (mX9_either x0 0 u0) (by decide) (fun _ u1 => ?_)
  refine md_vc (mX9_passes x0 63 u1) (by decide) (fun v2 u3 => ?_)
  refine md_jn (P := fun (f : zMem → zRs) => ∀ (u4 : zMem), zMd [901, 903, 904, 905] u0 u4 (f u4)) (fun u4 => ?_) (fun k5 hk5 => ?_)
  ·
    refine md_vc (mX9_emit x0 59 u4) (by decide) (fun _ u6 => ?_)
    exact md_ret
  ·
    refine md_if ?_ ?_
    ·
      exact hk5 _
    ·
      refine md_vc (mX9_emit x0 63 u3) (by decide) (fun _ u7 => ?_)
      refine md_vc (mX9_either x0 0 u7) (by decide) (fun _ u8 => ?_)
      exact hk5 _
theorem mX9_parse (x0 : Int) (u0 : zMem) : zMd [901, 903, 904, 905] u0 u0 (fX9_parse x0 u0) := by
  unfold fX9_parse
  refine md_pf (by decide) (by decide) (by decide) (fun u1 => ?_)
  refine md_pf (by decide) (by decide) (by decide) (fun u2 => ?_)
  refine md_pf (by decide) (by decide) (by decide) (fun u3 => ?_)
  refine md_vc (mX9_line x0 u3) (by decide) (fun _ u4 => ?_)
  refine zlp_ind (fun (f : Int → zMem → zRs) => ∀ (v5 : Int) (u6 : zMem), zMd [901, 903, 904, 905] u0 u6 (f v5 u6)) (fun _ _ => md_none) (fun k7 hk7 v5 u6 => ?_) _ _ _
  refine md_jn (P := fun (f : zMem → zRs) => ∀ (u8 : zMem), zMd [901, 903, 904, 905] u0 u8 (f u8)) (fun u8 => ?_) (fun k9 hk9 => ?_)
  ·
    refine md_gf (fun v10 => ?_)
    refine md_gf (fun v11 => ?_)
    refine md_jn (P := fun (f : zMem → zRs) => ∀ (u12 : zMem), zMd [901, 903, 904, 905] u0 u12 (f u12)) (fun u12 => ?_) (fun k13 hk13 => ?_)
    ·
      refine md_gf (fun v14 => ?_)
      exact md_ret
    ·
      refine md_if ?_ ?_
      ·
        exact hk13 _
      ·
        refine md_vc (mX9_fail x0 u8) (by decide) (fun _ u15 => ?_)
        exact hk13 _
  ·
    refine md_if ?_ ?_
    ·
      exact hk9 _
    ·
      refine md_vc (mX9_passes x0 59 u6) (by decide) (fun v16 u17 => ?_)
      refine md_if ?_ ?_
      ·
        exact hk9 _
      ·
        refine md_vc (mX9_line x0 u17) (by decide) (fun _ u18 => ?_)
        exact hk7 _ _
theorem mX10_saying (x0 x1 x2 : Int) (u0 : zMem) : zMd [500, 501] u0 u0 (fX10_saying x0 x1 x2 u0) := by
  unfold fX10_saying
  refine md_if ?_ ?_
  ·
    exact md_ret
  ·
    refine md_if ?_ ?_
    ·
      refine md_gf (fun v1 => ?_)
      refine md_nz ?_
      refine md_nz ?_
      refine md_nz ?_
      refine md_nz ?_
      refine md_vc (mX5_append v1 (zw32 (Int.tdiv x1 10)) (Int.tmod x1 10) (zw32 (Int.tdiv x2 100)) (Int.tmod x2 100) u0) (by decide) (fun v2 u3 => ?_)
      exact md_ret
    ·
      exact md_ret
theorem mX10_isShelf (x0 : Int) (u0 : zMem) : zMd [] u0 u0 (fX10_isShelf x0 u0) := by
  unfold fX10_isShelf
  refine md_jn (P := fun (f : zMem → zRs) => ∀ (u1 : zMem), zMd [] u0 u1 (f u1)) (fun u1 => ?_) (fun k2 hk2 => ?_)
  ·
    exact md_bl md_ret
  ·
    refine md_if ?_ ?_
    ·
      exact hk2 _
    ·
      refine md_if ?_ ?_
      ·
        exact hk2 _
      ·
        exact md_bl md_ret
theorem mX10_comesFrom (x0 x1 x2 : Int) (u0 : zMem) : zMd [500, 501] u0 u0 (fX10_comesFrom x0 x1 x2 u0) := by
  unfold fX10_comesFrom
  refine md_if ?_ ?_
  ·
    exact md_bl md_ret
  ·
    refine md_vc (mX8_length x1 u0) (by decide) (fun v1 u2 => ?_)
    refine md_if ?_ ?_
    ·
      refine md_gf (fun v3 => ?_)
      refine md_vc (mX8_at x1 (zw32 x2) u2) (by decide) (fun v4 u5 => ?_)
      refine md_vc (mX8_at x1 (zw32 ((zw32 x2) + 1)) u5) (by decide) (fun v6 u7 => ?_)
      refine md_vc (mX8_at x1 (zw32 ((zw32 x2) + 2)) u7) (by decide) (fun v8 u9 => ?_)
      refine md_vc (mX8_at x1 (zw32 ((zw32 x2) + 3)) u9) (by decide) (fun v10 u11 => ?_)
      refine md_vc (mX5_append v3 (zw32 v4) (zw32 v6) (zw32 v8) (zw32 v10) u11) (by decide) (fun v12 u13 => ?_)
      refine md_if ?_ ?_
      ·
        exact md_bl md_ret
      ·
        exact md_bl md_ret
    ·
      exact md_bl md_ret
theorem mX10_sayings (x0 x1 x2 x3 : Int) (u0 : zMem) : zMd [500, 501] u0 u0 (fX10_sayings x0 x1 x2 x3 u0) := by
  unfold fX10_sayings
  refine md_call (mX10_isShelf x1 u0) (by decide) (fun v1 u2 => ?_)
  refine md_if ?_ ?_
  ·
    exact md_ret
  ·
    refine md_if ?_ ?_
    ·
      exact md_ret
    ·
      refine md_if ?_ ?_
      ·
        refine md_gf (fun v3 => ?_)
        refine md_ald (fun v4 => ?_)
        refine md_vc (mX8_isBare v4 u2) (by decide) (fun v5 u6 => ?_)
        refine md_if ?_ ?_
        ·
          refine md_vc (mX8_holdsBytes v4 u6) (by decide) (fun v7 u8 => ?_)
          refine md_if ?_ ?_
          ·
            refine zlp_ind (fun (f : Int → zMem → zRs) => ∀ (v9 : Int) (u10 : zMem), zMd [500, 501] u0 u10 (f v9 u10)) (fun _ _ => md_none) (fun k11 hk11 v9 u10 => ?_) _ _ _
            refine md_if ?_ ?_
            ·
              exact md_ret
            ·
              refine md_vc (mX10_comesFrom x0 v4 (zw64 (x2 + (zw64 (4 * v9)))) u10) (by decide) (fun v12 u13 => ?_)
              refine md_if ?_ ?_
              ·
                exact hk11 _ _
              ·
                exact md_ret
          ·
            exact md_ret
        ·
          exact md_ret
      ·
        exact md_ret
theorem mX10_mend (x0 x1 x2 x3 : Int) (u0 : zMem) : zMd [200, 201, 202, 500] u0 u0 (fX10_mend x0 x1 x2 x3 u0) := by
  unfold fX10_mend
  refine md_gf (fun v1 => ?_)
  refine md_vc (mX5_has v1 x1 u0) (by decide) (fun v2 u3 => ?_)
  refine md_if ?_ ?_
  ·
    exact md_ret
  ·
    refine md_call (mX5_fits x2 x3 u3) (by decide) (fun v4 u5 => ?_)
    refine md_if ?_ ?_
    ·
      refine md_gf (fun v6 => ?_)
      refine md_vc (mX5_part v6 x1 x2 u5) (by decide) (fun v7 u8 => ?_)
      refine md_if ?_ ?_
      ·
        exact md_ret
      ·
        refine md_gf (fun v9 => ?_)
        refine md_vc (mX5_change v9 x1 x2 x3 u8) (by decide) (fun _ u10 => ?_)
        refine md_gf (fun v11 => ?_)
        refine md_vc (mX2_note v11 x1 x2 v7 x3 u10) (by decide) (fun _ u12 => ?_)
        exact md_ret
    ·
      exact md_ret
theorem mX10_of (x0 x1 x2 : Int) (u0 : zMem) : zMd [] u0 u0 (fX10_of x0 x1 x2 u0) := by
  unfold fX10_of
  refine md_gf (fun v1 => ?_)
  refine md_vc (mX5_has v1 x1 u0) (by decide) (fun v2 u3 => ?_)
  refine md_if ?_ ?_
  ·
    exact md_ret
  ·
    refine md_if ?_ ?_
    ·
      exact md_ret
    ·
      refine md_if ?_ ?_
      ·
        refine md_if ?_ ?_
        ·
          refine md_gf (fun v4 => ?_)
          refine md_vc (mX5_part v4 x1 x2 u3) (by decide) (fun v5 u6 => ?_)
          exact md_ret
        ·
          refine md_gf (fun v7 => ?_)
          refine md_vc (mX5_minute v7 x1 u3) (by decide) (fun v8 u9 => ?_)
          exact md_ret
      ·
        exact md_ret
theorem mX10_feed (x0 x1 : Int) (u0 : zMem) : zMd [900, 902] u0 u0 (fX10_feed x0 x1 u0) := by
  unfold fX10_feed
  refine md_if ?_ ?_
  ·
    exact md_ret
  ·
    refine md_if ?_ ?_
    ·
      refine md_gf (fun v1 => ?_)
      refine md_vc (mX9_append v1 x1 u0) (by decide) (fun v2 u3 => ?_)
      refine md_if ?_ ?_
      ·
        exact md_ret
      ·
        refine md_gf (fun v4 => ?_)
        refine md_vc (mX9_length v4 u3) (by decide) (fun v5 u6 => ?_)
        exact md_ret
    ·
      exact md_ret
theorem mX10_writer (x0 x1 x2 : Int) (u0 : zMem) : zMd [303, 400, 401, 402, 403, 901, 902, 903, 904, 905] u0 u0 (fX10_writer x0 x1 x2 u0) := by
  unfold fX10_writer
  refine md_if ?_ ?_
  ·
    exact md_ret
  ·
    refine md_if ?_ ?_
    ·
      exact md_ret
    ·
      refine md_if ?_ ?_
      ·
        exact md_ret
      ·
        refine md_if ?_ ?_
        ·
          refine md_gf (fun v1 => ?_)
          refine md_vc (mX3_isFull v1 u0) (by decide) (fun v2 u3 => ?_)
          refine md_if ?_ ?_
          ·
            refine md_gf (fun v4 => ?_)
            refine md_vc (mX9_parse v4 u3) (by decide) (fun v5 u6 => ?_)
            refine md_jn (P := fun (f : Int → zMem → zRs) => ∀ (v7 : Int) (u8 : zMem), zMd [303, 400, 401, 402, 403, 901, 902, 903, 904, 905] u0 u8 (f v7 u8)) (fun v7 u8 => ?_) (fun k9 hk9 => ?_)
            ·
              refine md_gf (fun v10 => ?_)
              refine md_vc (mX9_clear v10 u8) (by decide) (fun _ u11 => ?_)
              exact md_ret
            ·
              refine md_if ?_ ?_
              ·
                refine md_gf (fun v12 => ?_)
                refine md_gf (fun v13 => ?_)
                refine md_vc (mX3_admit v12 v13 x1 x2 u6) (by decide) (fun v14 u15 => ?_)
                exact hk9 _ _
              ·
                exact hk9 _ _
          ·
            exact md_ret
        ·
          exact md_ret
theorem mX10_heed (x0 x1 x2 : Int) (u0 : zMem) : zMd [701, 702, 703] u0 u0 (fX10_heed x0 x1 x2 u0) := by
  unfold fX10_heed
  refine md_gf (fun v1 => ?_)
  refine md_vc (mX3_has v1 x1 u0) (by decide) (fun v2 u3 => ?_)
  refine md_if ?_ ?_
  ·
    exact md_ret
  ·
    refine md_gf (fun v4 => ?_)
    refine md_vc (mX5_has v4 x2 u3) (by decide) (fun v5 u6 => ?_)
    refine md_if ?_ ?_
    ·
      refine md_gf (fun v7 => ?_)
      refine md_vc (mX3_heedOf v7 x1 x2 u6) (by decide) (fun v8 u9 => ?_)
      exact md_ret
    ·
      exact md_ret
theorem mX10_take (x0 x1 x2 : Int) (u0 : zMem) : zMd [103, 600, 601, 602, 701, 702, 703] u0 u0 (fX10_take x0 x1 x2 u0) := by
  unfold fX10_take
  refine md_gf (fun v1 => ?_)
  refine md_vc (mX3_has v1 x1 u0) (by decide) (fun v2 u3 => ?_)
  refine md_if ?_ ?_
  ·
    refine md_gf (fun v4 => ?_)
    refine md_vc (mX1_open v4 x1 u3) (by decide) (fun v5 u6 => ?_)
    refine md_gf (fun v7 => ?_)
    refine md_vc (mX1_paper v7 v5 u6) (by decide) (fun v8 u9 => ?_)
    refine md_if ?_ ?_
    ·
      refine md_gf (fun v10 => ?_)
      refine md_vc (mX3_takeDown v10 x1 x2 v8 u9) (by decide) (fun _ u11 => ?_)
      exact md_ret
    ·
      exact md_ret
  ·
    exact md_ret
theorem mX10_told (x0 x1 x2 : Int) (u0 : zMem) : zMd [103, 600, 601, 602] u0 u0 (fX10_told x0 x1 x2 u0) := by
  unfold fX10_told
  refine md_jn (P := fun (f : zMem → zRs) => ∀ (u1 : zMem), zMd [103, 600, 601, 602] u0 u1 (f u1)) (fun u1 => ?_) (fun k2 hk2 => ?_)
  ·
    refine md_if ?_ ?_
    ·
      exact md_ret
    ·
      refine md_gf (fun v3 => ?_)
      refine md_vc (mX5_size v3 u1) (by decide) (fun v4 u5 => ?_)
      refine md_if ?_ ?_
      ·
        refine md_gf (fun v6 => ?_)
        refine md_vc (mX1_open v6 x1 u5) (by decide) (fun v7 u8 => ?_)
        refine md_gf (fun v9 => ?_)
        refine md_vc (mX1_paper v9 v7 u8) (by decide) (fun v10 u11 => ?_)
        refine md_if ?_ ?_
        ·
          refine zlp_ind (fun (f : Int → zMem → zRs) => ∀ (v12 : Int) (u13 : zMem), zMd [103, 600, 601, 602] u0 u13 (f v12 u13)) (fun _ _ => md_none) (fun k14 hk14 v12 u13 => ?_) _ _ _
          refine md_gf (fun v15 => ?_)
          refine md_vc (mX5_size v15 u13) (by decide) (fun v16 u17 => ?_)
          refine md_if ?_ ?_
          ·
            exact md_ret
          ·
            refine md_jn (P := fun (f : zMem → zRs) => ∀ (u18 : zMem), zMd [103, 600, 601, 602] u0 u18 (f u18)) (fun u18 => ?_) (fun k19 hk19 => ?_)
            ·
              exact hk14 _ _
            ·
              refine md_if ?_ ?_
              ·
                exact hk19 _
              ·
                refine md_gf (fun v20 => ?_)
                refine md_vc (mX5_part v20 v12 1 u17) (by decide) (fun v21 u22 => ?_)
                refine md_gf (fun v23 => ?_)
                refine md_vc (mX5_part v23 v12 3 u22) (by decide) (fun v24 u25 => ?_)
                refine md_vc (mX6_append v10 v12 v21 v24 u25) (by decide) (fun v26 u27 => ?_)
                exact hk19 _
        ·
          exact md_ret
      ·
        exact md_ret
  ·
    refine md_if ?_ ?_
    ·
      exact hk2 _
    ·
      refine md_gf (fun v28 => ?_)
      refine md_vc (mX3_has v28 x1 u0) (by decide) (fun v29 u30 => ?_)
      refine md_if ?_ ?_
      ·
        exact md_ret
      ·
        exact hk2 _
theorem mX10_add (x0 x1 x2 x3 : Int) (u0 : zMem) : zMd [600, 601] u0 u0 (fX10_add x0 x1 x2 x3 u0) := by
  unfold fX10_add
  refine md_gf (fun v1 => ?_)
  refine md_vc (mX1_paper v1 x1 u0) (by decide) (fun v2 u3 => ?_)
  refine md_if ?_ ?_
  ·
    exact md_ret
  ·
    refine md_gf (fun v4 => ?_)
    refine md_vc (mX5_has v4 x2 u3) (by decide) (fun v5 u6 => ?_)
    refine md_if ?_ ?_
    ·
      exact md_ret
    ·
      refine md_vc (mX6_placeOf v2 x2 u6) (by decide) (fun v7 u8 => ?_)
      refine md_if ?_ ?_
      ·
        exact md_ret
      ·
        refine md_if ?_ ?_
        ·
          exact md_ret
        ·
          refine md_vc (mX6_size v2 u8) (by decide) (fun v9 u10 => ?_)
          refine md_if ?_ ?_
          ·
            refine md_gf (fun v11 => ?_)
            refine md_vc (mX5_part v11 x2 1 u10) (by decide) (fun v12 u13 => ?_)
            refine md_gf (fun v14 => ?_)
            refine md_vc (mX5_part v14 x2 3 u13) (by decide) (fun v15 u16 => ?_)
            refine md_vc (mX6_append v2 x2 v12 v15 u16) (by decide) (fun v17 u18 => ?_)
            refine md_if ?_ ?_
            ·
              refine md_vc (mX6_size v2 u18) (by decide) (fun v19 u20 => ?_)
              refine md_vc (mX6_markAdded v2 (zw32 (v19 - 1)) u20) (by decide) (fun _ u21 => ?_)
              refine md_vc (mX6_size v2 u21) (by decide) (fun v22 u23 => ?_)
              refine md_vc (mX6_move v2 (zw32 (v22 - 1)) x3 u23) (by decide) (fun _ u24 => ?_)
              refine md_vc (mX6_size v2 u24) (by decide) (fun v25 u26 => ?_)
              exact md_ret
            ·
              exact md_ret
          ·
            exact md_ret
theorem mX10_strike (x0 x1 x2 : Int) (u0 : zMem) : zMd [600, 601] u0 u0 (fX10_strike x0 x1 x2 u0) := by
  unfold fX10_strike
  refine md_gf (fun v1 => ?_)
  refine md_vc (mX1_paper v1 x1 u0) (by decide) (fun v2 u3 => ?_)
  refine md_if ?_ ?_
  ·
    exact md_ret
  ·
    refine md_vc (mX6_hasPlace v2 x2 u3) (by decide) (fun v4 u5 => ?_)
    refine md_if ?_ ?_
    ·
      refine md_vc (mX6_drop v2 x2 u5) (by decide) (fun _ u6 => ?_)
      refine md_vc (mX6_size v2 u6) (by decide) (fun v7 u8 => ?_)
      exact md_ret
    ·
      exact md_ret
theorem mX10_read (x0 x1 x2 : Int) (u0 : zMem) : zMd [600, 601] u0 u0 (fX10_read x0 x1 x2 u0) := by
  unfold fX10_read
  refine md_gf (fun v1 => ?_)
  refine md_vc (mX1_paper v1 x1 u0) (by decide) (fun v2 u3 => ?_)
  refine md_if ?_ ?_
  ·
    exact md_ret
  ·
    refine md_if ?_ ?_
    ·
      exact md_ret
    ·
      refine md_if ?_ ?_
      ·
        refine md_gf (fun v4 => ?_)
        refine md_vc (mX6_hear v2 v4 x2 u3) (by decide) (fun v5 u6 => ?_)
        exact md_ret
      ·
        exact md_ret
theorem mX10_cut (x0 x1 x2 : Int) (u0 : zMem) : zMd [600, 601] u0 u0 (fX10_cut x0 x1 x2 u0) := by
  unfold fX10_cut
  refine md_gf (fun v1 => ?_)
  refine md_vc (mX1_paper v1 x1 u0) (by decide) (fun v2 u3 => ?_)
  refine md_if ?_ ?_
  ·
    exact md_ret
  ·
    refine md_if ?_ ?_
    ·
      exact md_ret
    ·
      refine md_if ?_ ?_
      ·
        refine md_vc (mX6_shorten v2 x2 u3) (by decide) (fun v4 u5 => ?_)
        exact md_ret
      ·
        exact md_ret
theorem mX10_page (x0 x1 x2 : Int) (u0 : zMem) : zMd [] u0 u0 (fX10_page x0 x1 x2 u0) := by
  unfold fX10_page
  refine md_gf (fun v1 => ?_)
  refine md_vc (mX1_paper v1 x1 u0) (by decide) (fun v2 u3 => ?_)
  refine md_if ?_ ?_
  ·
    exact md_ret
  ·
    refine md_if ?_ ?_
    ·
      refine md_if ?_ ?_
      ·
        refine md_if ?_ ?_
        ·
          refine md_vc (mX6_size v2 u3) (by decide) (fun v5 u6 => ?_)
          exact md_ret
        ·
          refine md_if ?_ ?_
          ·
            refine md_vc (mX6_by v2 u3) (by decide) (fun v8 u9 => ?_)
            exact md_ret
          ·
            refine md_if ?_ ?_
            ·
              refine md_vc (mX6_bits v2 u3) (by decide) (fun v11 u12 => ?_)
              exact md_ret
            ·
              refine md_if ?_ ?_
              ·
                refine md_vc (mX6_total v2 u3) (by decide) (fun v14 u15 => ?_)
                exact md_ret
              ·
                exact md_ret
      ·
        refine md_nz ?_
        refine md_nz ?_
        refine md_vc (mX6_hasPlace v2 (zw32 ((zw32 (Int.tdiv x2 100)) - 1)) u3) (by decide) (fun v16 u17 => ?_)
        refine md_jn (P := fun (f : zMem → zRs) => ∀ (u18 : zMem), zMd [] u0 u18 (f u18)) (fun u18 => ?_) (fun k19 hk19 => ?_)
        ·
          exact md_ret
        ·
          refine md_if ?_ ?_
          ·
            exact hk19 _
          ·
            refine md_if ?_ ?_
            ·
              exact hk19 _
            ·
              refine md_vc (mX6_part v2 (zw32 ((zw32 (Int.tdiv x2 100)) - 1)) (Int.tmod x2 100) u17) (by decide) (fun v20 u21 => ?_)
              exact md_ret
    ·
      exact md_ret
theorem mX10_led (x0 x1 x2 : Int) (u0 : zMem) : zMd [] u0 u0 (fX10_led x0 x1 x2 u0) := by
  unfold fX10_led
  refine md_gf (fun v1 => ?_)
  refine md_vc (mX1_paper v1 x1 u0) (by decide) (fun v2 u3 => ?_)
  refine md_if ?_ ?_
  ·
    exact md_ret
  ·
    refine md_gf (fun v4 => ?_)
    refine md_vc (mX5_has v4 x2 u3) (by decide) (fun v5 u6 => ?_)
    refine md_if ?_ ?_
    ·
      refine md_vc (mX6_placeOf v2 x2 u6) (by decide) (fun v7 u8 => ?_)
      refine md_if ?_ ?_
      ·
        exact md_ret
      ·
        exact md_ret
    ·
      exact md_ret
theorem mX10_isChoice (x0 : Int) (u0 : zMem) : zMd [] u0 u0 (fX10_isChoice x0 u0) := by
  unfold fX10_isChoice
  refine md_jn (P := fun (f : zMem → zRs) => ∀ (u1 : zMem), zMd [] u0 u1 (f u1)) (fun u1 => ?_) (fun k2 hk2 => ?_)
  ·
    exact md_bl md_ret
  ·
    refine md_if ?_ ?_
    ·
      exact hk2 _
    ·
      refine md_if ?_ ?_
      ·
        exact md_bl md_ret
      ·
        exact hk2 _
theorem mX10_sure (x0 x1 x2 : Int) (u0 : zMem) : zMd [] u0 u0 (fX10_sure x0 x1 x2 u0) := by
  unfold fX10_sure
  refine md_gf (fun v1 => ?_)
  refine md_vc (mX5_has v1 x1 u0) (by decide) (fun v2 u3 => ?_)
  refine md_if ?_ ?_
  ·
    exact md_ret
  ·
    refine md_call (mX10_isChoice x2 u3) (by decide) (fun v4 u5 => ?_)
    refine md_if ?_ ?_
    ·
      refine md_if ?_ ?_
      ·
        refine md_gf (fun v6 => ?_)
        refine md_vc (mX1_writersWith v6 x1 u5) (by decide) (fun v7 u8 => ?_)
        exact md_ret
      ·
        refine md_gf (fun v9 => ?_)
        refine md_vc (mX1_papersWith v9 x1 u5) (by decide) (fun v10 u11 => ?_)
        exact md_ret
    ·
      exact md_ret
theorem mX10_only (x0 : Int) (u0 : zMem) : zMd [] u0 u0 (fX10_only x0 u0) := by
  unfold fX10_only
  refine md_gf (fun v1 => ?_)
  refine md_vc (mX1_onlyOnce v1 u0) (by decide) (fun v2 u3 => ?_)
  exact md_ret
theorem mX10_fight (x0 x1 x2 : Int) (u0 : zMem) : zMd [] u0 u0 (fX10_fight x0 x1 x2 u0) := by
  unfold fX10_fight
  refine md_if ?_ ?_
  ·
    exact md_ret
  ·
    refine md_nz ?_
    refine md_nz ?_
    refine md_if ?_ ?_
    ·
      exact md_ret
    ·
      refine md_call (mX10_isChoice x2 u0) (by decide) (fun v1 u2 => ?_)
      refine md_if ?_ ?_
      ·
        refine md_gf (fun v3 => ?_)
        refine md_nz ?_
        refine md_vc (mX1_paper v3 (zw32 (Int.tdiv x1 10)) u2) (by decide) (fun v4 u5 => ?_)
        refine md_gf (fun v6 => ?_)
        refine md_nz ?_
        refine md_vc (mX1_paper v6 (Int.tmod x1 10) u5) (by decide) (fun v7 u8 => ?_)
        refine md_if ?_ ?_
        ·
          exact md_ret
        ·
          refine md_if ?_ ?_
          ·
            refine md_if ?_ ?_
            ·
              refine md_gf (fun v9 => ?_)
              refine md_vc (mX1_firstFight v9 v4 v7 u8) (by decide) (fun v10 u11 => ?_)
              exact md_ret
            ·
              refine md_gf (fun v12 => ?_)
              refine md_vc (mX1_fightsOf v12 v4 v7 u8) (by decide) (fun v13 u14 => ?_)
              exact md_ret
          ·
            exact md_ret
      ·
        exact md_ret
theorem mX10_order (x0 x1 : Int) (u0 : zMem) : zMd [102] u0 u0 (fX10_order x0 x1 u0) := by
  unfold fX10_order
  refine md_if ?_ ?_
  ·
    exact md_ret
  ·
    refine md_if ?_ ?_
    ·
      refine md_gf (fun v1 => ?_)
      refine md_vc (mX1_inOrder v1 x1 u0) (by decide) (fun v2 u3 => ?_)
      exact md_ret
    ·
      exact md_ret
theorem mX10_commonDivisor (x0 x1 : Int) (u0 : zMem) : zMd [] u0 u0 (fX10_commonDivisor x0 x1 u0) := by
  unfold fX10_commonDivisor
  refine zlp_ind (fun (f : Int → Int → Int → zMem → zRs) => ∀ (v1 : Int) (v2 : Int) (v3 : Int) (u4 : zMem), zMd [] u0 u4 (f v1 v2 v3 u4)) (fun _ _ _ _ => md_none) (fun k5 hk5 v1 v2 v3 u4 => ?_) _ _ _ _ _
  refine md_if ?_ ?_
  ·
    exact md_ret
  ·
    refine md_if ?_ ?_
    ·
      exact md_ret
    ·
      refine md_nz ?_
      exact hk5 _ _ _ _
theorem mX10_said (x0 x1 x2 x3 : Int) (u0 : zMem) : zMd [701, 702, 703] u0 u0 (fX10_said x0 x1 x2 x3 u0) := by
  unfold fX10_said
  refine md_gf (fun v1 => ?_)
  refine md_vc (mX5_has v1 x1 u0) (by decide) (fun v2 u3 => ?_)
  refine md_if ?_ ?_
  ·
    exact md_ret
  ·
    refine md_if ?_ ?_
    ·
      exact md_ret
    ·
      refine md_if ?_ ?_
      ·
        exact md_ret
      ·
        refine md_call (mX10_isChoice x3 u3) (by decide) (fun v4 u5 => ?_)
        refine md_if ?_ ?_
        ·
          refine md_gf (fun v6 => ?_)
          refine md_gf (fun v7 => ?_)
          refine md_vc (mX1_chanceIfSaid v6 x1 v7 u5) (by decide) (fun v8 u9 => ?_)
          refine md_gf (fun v10 => ?_)
          refine md_vc (mX1_chanceIfNot v10 x1 u9) (by decide) (fun v11 u12 => ?_)
          refine md_call (mX10_commonDivisor (zw64 (x2 * v8)) (zw64 ((zw64 (x2 * v8)) + (zw64 ((zw32 (100 - x2)) * v11)))) u12) (by decide) (fun v13 u14 => ?_)
          refine md_jn (P := fun (f : zMem → zRs) => ∀ (u15 : zMem), zMd [701, 702, 703] u0 u15 (f u15)) (fun u15 => ?_) (fun k16 hk16 => ?_)
          ·
            exact md_ret
          ·
            refine md_if ?_ ?_
            ·
              exact hk16 _
            ·
              refine md_if ?_ ?_
              ·
                refine md_if ?_ ?_
                ·
                  refine md_nz ?_
                  exact md_ret
                ·
                  refine md_nz ?_
                  exact md_ret
              ·
                exact hk16 _
        ·
          exact md_ret
theorem mX10_whose (x0 x1 : Int) (u0 : zMem) : zMd [701, 702, 703] u0 u0 (fX10_whose x0 x1 u0) := by
  unfold fX10_whose
  refine md_gf (fun v1 => ?_)
  refine md_vc (mX1_paper v1 x1 u0) (by decide) (fun v2 u3 => ?_)
  refine md_if ?_ ?_
  ·
    refine md_gf (fun v4 => ?_)
    refine md_vc (mX3_isEmpty v4 u3) (by decide) (fun v5 u6 => ?_)
    refine md_if ?_ ?_
    ·
      refine md_gf (fun v7 => ?_)
      refine md_vc (mX3_likeliest v7 v2 u6) (by decide) (fun v8 u9 => ?_)
      exact md_ret
    ·
      exact md_ret
  ·
    exact md_ret
theorem mX10_learnt (x0 x1 x2 : Int) (u0 : zMem) : zMd [701, 702, 703] u0 u0 (fX10_learnt x0 x1 x2 u0) := by
  unfold fX10_learnt
  refine md_if ?_ ?_
  ·
    exact md_ret
  ·
    refine md_gf (fun v1 => ?_)
    refine md_vc (mX1_size v1 u0) (by decide) (fun v2 u3 => ?_)
    refine md_if ?_ ?_
    ·
      exact md_ret
    ·
      refine md_call (mX10_isChoice x2 u3) (by decide) (fun v4 u5 => ?_)
      refine md_if ?_ ?_
      ·
        refine md_gf (fun v6 => ?_)
        refine md_vc (mX3_isEmpty v6 u5) (by decide) (fun v7 u8 => ?_)
        refine md_if ?_ ?_
        ·
          refine md_gf (fun v9 => ?_)
          refine md_gf (fun v10 => ?_)
          refine md_vc (mX3_leastOff v9 x1 v10 u8) (by decide) (fun v11 u12 => ?_)
          refine md_if ?_ ?_
          ·
            refine md_gf (fun v13 => ?_)
            refine md_gf (fun v14 => ?_)
            refine md_vc (mX3_offOf v13 v11 x1 v14 u12) (by decide) (fun v15 u16 => ?_)
            exact md_ret
          ·
            exact md_ret
        ·
          exact md_ret
      ·
        exact md_ret
theorem mX10_asleep (x0 x1 x2 : Int) (u0 : zMem) : zMd [] u0 u0 (fX10_asleep x0 x1 x2 u0) := by
  unfold fX10_asleep
  refine md_gf (fun v1 => ?_)
  refine md_vc (mX1_paper v1 x1 u0) (by decide) (fun v2 u3 => ?_)
  refine md_if ?_ ?_
  ·
    exact md_ret
  ·
    refine md_call (mX10_isChoice x2 u3) (by decide) (fun v4 u5 => ?_)
    refine md_if ?_ ?_
    ·
      refine md_gf (fun v6 => ?_)
      refine md_vc (mX1_longestGap v6 v2 u5) (by decide) (fun v7 u8 => ?_)
      refine md_if ?_ ?_
      ·
        refine md_if ?_ ?_
        ·
          refine md_gf (fun v9 => ?_)
          refine md_vc (mX1_spanFrom v9 v2 v7 u8) (by decide) (fun v10 u11 => ?_)
          exact md_ret
        ·
          refine md_gf (fun v12 => ?_)
          refine md_vc (mX5_minute v12 v7 u8) (by decide) (fun v13 u14 => ?_)
          exact md_ret
      ·
        exact md_ret
    ·
      exact md_ret
theorem mX10_ask (x0 x1 : Int) (u0 : zMem) : zMd [701, 702, 703] u0 u0 (fX10_ask x0 x1 u0) := by
  unfold fX10_ask
  refine md_call (mX10_isChoice x1 u0) (by decide) (fun v1 u2 => ?_)
  refine md_if ?_ ?_
  ·
    refine md_gf (fun v3 => ?_)
    refine md_vc (mX3_size v3 u2) (by decide) (fun v4 u5 => ?_)
    refine md_if ?_ ?_
    ·
      refine md_gf (fun v6 => ?_)
      refine md_vc (mX3_bestPair v6 u5) (by decide) (fun v7 u8 => ?_)
      refine md_if ?_ ?_
      ·
        refine md_gf (fun v9 => ?_)
        refine md_nz ?_
        refine md_nz ?_
        refine md_vc (mX3_pairChance v9 (zw32 (Int.tdiv v7 10)) (Int.tmod v7 10) u8) (by decide) (fun v10 u11 => ?_)
        exact md_ret
      ·
        exact md_ret
    ·
      exact md_ret
  ·
    exact md_ret
theorem mX10_years (x0 x1 x2 : Int) (u0 : zMem) : zMd [701, 702, 703] u0 u0 (fX10_years x0 x1 x2 u0) := by
  unfold fX10_years
  refine md_gf (fun v1 => ?_)
  refine md_vc (mX3_has v1 x1 u0) (by decide) (fun v2 u3 => ?_)
  refine md_if ?_ ?_
  ·
    exact md_ret
  ·
    refine md_if ?_ ?_
    ·
      exact md_ret
    ·
      refine md_if ?_ ?_
      ·
        refine zlp_ind (fun (f : Int → Int → zMem → zRs) => ∀ (v4 : Int) (v5 : Int) (u6 : zMem), zMd [701, 702, 703] u0 u6 (f v4 v5 u6)) (fun _ _ _ => md_none) (fun k7 hk7 v4 v5 u6 => ?_) _ _ _ _
        refine md_gf (fun v8 => ?_)
        refine md_vc (mX5_size v8 u6) (by decide) (fun v9 u10 => ?_)
        refine md_if ?_ ?_
        ·
          exact md_ret
        ·
          refine md_gf (fun v11 => ?_)
          refine md_vc (mX3_heedOf v11 x1 v5 u10) (by decide) (fun v12 u13 => ?_)
          refine md_nz ?_
          exact hk7 _ _ _
      ·
        exact md_ret
theorem mX10_undo (x0 : Int) (u0 : zMem) : zMd [201, 500] u0 u0 (fX10_undo x0 u0) := by
  unfold fX10_undo
  refine md_gf (fun v1 => ?_)
  refine md_gf (fun v2 => ?_)
  refine md_vc (mX2_stepBack v1 v2 u0) (by decide) (fun v3 u4 => ?_)
  refine md_if ?_ ?_
  ·
    exact md_ret
  ·
    refine md_gf (fun v5 => ?_)
    refine md_vc (mX2_done v5 u4) (by decide) (fun v6 u7 => ?_)
    exact md_ret
theorem mX10_redo (x0 : Int) (u0 : zMem) : zMd [201, 500] u0 u0 (fX10_redo x0 u0) := by
  unfold fX10_redo
  refine md_gf (fun v1 => ?_)
  refine md_gf (fun v2 => ?_)
  refine md_vc (mX2_stepOn v1 v2 u0) (by decide) (fun v3 u4 => ?_)
  refine md_if ?_ ?_
  ·
    exact md_ret
  ·
    refine md_gf (fun v5 => ?_)
    refine md_vc (mX2_undone v5 u4) (by decide) (fun v6 u7 => ?_)
    exact md_ret
theorem mX10_body (x0 x1 : Int) (u0 : zMem) : zMd [0, 2] u0 u0 (fX10_body x0 x1 u0) := by
  unfold fX10_body
  refine md_call (mX0_isKind x1 u0) (by decide) (fun v1 u2 => ?_)
  refine md_if ?_ ?_
  ·
    refine md_gf (fun v3 => ?_)
    refine md_vc (mX0_admit v3 x1 u2) (by decide) (fun v4 u5 => ?_)
    exact md_ret
  ·
    exact md_ret
theorem mX10_act (x0 x1 x2 x3 : Int) (u0 : zMem) : zMd [1, 3, 4] u0 u0 (fX10_act x0 x1 x2 x3 u0) := by
  unfold fX10_act
  refine md_gf (fun v1 => ?_)
  refine md_vc (mX0_begin v1 x1 x2 x3 u0) (by decide) (fun v2 u3 => ?_)
  exact md_ret
theorem mX10_trace (x0 x1 : Int) (u0 : zMem) : zMd [] u0 u0 (fX10_trace x0 x1 u0) := by
  unfold fX10_trace
  refine md_gf (fun v1 => ?_)
  refine md_vc (mX0_traced v1 x1 u0) (by decide) (fun v2 u3 => ?_)
  exact md_ret
theorem mX10_keep (x0 x1 x2 : Int) (u0 : zMem) : zMd [801, 802, 803] u0 u0 (fX10_keep x0 x1 x2 u0) := by
  unfold fX10_keep
  refine md_call (mX10_isShelf x1 u0) (by decide) (fun v1 u2 => ?_)
  refine md_if ?_ ?_
  ·
    exact md_ret
  ·
    refine md_jn (P := fun (f : zMem → zRs) => ∀ (u3 : zMem), zMd [801, 802, 803] u0 u3 (f u3)) (fun u3 => ?_) (fun k4 hk4 => ?_)
    ·
      refine md_gf (fun v5 => ?_)
      refine md_ald (fun v6 => ?_)
      refine md_vc (mX8_holdBody v6 x2 u3) (by decide) (fun _ u7 => ?_)
      exact md_ret
    ·
      refine md_if ?_ ?_
      ·
        exact hk4 _
      ·
        refine md_gf (fun v8 => ?_)
        refine md_vc (mX0_has v8 x2 u2) (by decide) (fun v9 u10 => ?_)
        refine md_if ?_ ?_
        ·
          exact hk4 _
        ·
          exact md_ret
theorem mX10_row (x0 x1 x2 x3 : Int) (u0 : zMem) : zMd [800, 801, 802, 803] u0 u0 (fX10_row x0 x1 x2 x3 u0) := by
  unfold fX10_row
  refine md_call (mX10_isShelf x1 u0) (by decide) (fun v1 u2 => ?_)
  refine md_if ?_ ?_
  ·
    exact md_ret
  ·
    refine md_call (mX8_isRowSort x2 u2) (by decide) (fun v3 u4 => ?_)
    refine md_if ?_ ?_
    ·
      exact md_ret
    ·
      refine md_if ?_ ?_
      ·
        refine md_if ?_ ?_
        ·
          refine md_gf (fun v5 => ?_)
          refine md_ald (fun v6 => ?_)
          refine md_vc (mX8_holdRow v6 x2 x3 u4) (by decide) (fun _ u7 => ?_)
          exact md_ret
        ·
          exact md_ret
      ·
        exact md_ret
theorem mX10_placeRefusal (x0 x1 x2 : Int) (u0 : zMem) : zMd [] u0 u0 (fX10_placeRefusal x0 x1 x2 u0) := by
  unfold fX10_placeRefusal
  refine md_call (mX10_isShelf x1 u0) (by decide) (fun v1 u2 => ?_)
  refine md_if ?_ ?_
  ·
    refine md_gf (fun v3 => ?_)
    refine md_ald (fun v4 => ?_)
    refine md_vc (mX8_isBare v4 u2) (by decide) (fun v5 u6 => ?_)
    refine md_if ?_ ?_
    ·
      refine md_gf (fun v7 => ?_)
      refine md_ald (fun v8 => ?_)
      refine md_vc (mX8_holdsRow v8 u6) (by decide) (fun v9 u10 => ?_)
      refine md_if ?_ ?_
      ·
        refine md_gf (fun v11 => ?_)
        refine md_ald (fun v12 => ?_)
        refine md_vc (mX8_hasRange v12 x2 1 u10) (by decide) (fun v13 u14 => ?_)
        refine md_if ?_ ?_
        ·
          exact md_ret
        ·
          exact md_ret
      ·
        exact md_ret
    ·
      exact md_ret
  ·
    exact md_ret
theorem mX10_put (x0 x1 x2 x3 : Int) (u0 : zMem) : zMd [800] u0 u0 (fX10_put x0 x1 x2 x3 u0) := by
  unfold fX10_put
  refine md_vc (mX10_placeRefusal x0 x1 x2 u0) (by decide) (fun v1 u2 => ?_)
  refine md_if ?_ ?_
  ·
    refine md_gf (fun v3 => ?_)
    refine md_ald (fun v4 => ?_)
    refine md_vc (mX8_set v4 x2 x3 u2) (by decide) (fun _ u5 => ?_)
    exact md_ret
  ·
    exact md_ret
theorem mX10_element (x0 x1 x2 : Int) (u0 : zMem) : zMd [] u0 u0 (fX10_element x0 x1 x2 u0) := by
  unfold fX10_element
  refine md_vc (mX10_placeRefusal x0 x1 x2 u0) (by decide) (fun v1 u2 => ?_)
  refine md_if ?_ ?_
  ·
    refine md_gf (fun v3 => ?_)
    refine md_ald (fun v4 => ?_)
    refine md_vc (mX8_at v4 x2 u2) (by decide) (fun v5 u6 => ?_)
    exact md_ret
  ·
    exact md_ret
theorem mX10_shift (x0 x1 x2 x3 x4 x5 : Int) (u0 : zMem) : zMd [800] u0 u0 (fX10_shift x0 x1 x2 x3 x4 x5 u0) := by
  unfold fX10_shift
  refine md_call (mX10_isShelf x1 u0) (by decide) (fun v1 u2 => ?_)
  refine md_if ?_ ?_
  ·
    exact md_ret
  ·
    refine md_call (mX10_isShelf x3 u2) (by decide) (fun v3 u4 => ?_)
    refine md_if ?_ ?_
    ·
      refine md_gf (fun v5 => ?_)
      refine md_ald (fun v6 => ?_)
      refine md_gf (fun v7 => ?_)
      refine md_ald (fun v8 => ?_)
      refine md_vc (mX8_isBare v6 u4) (by decide) (fun v9 u10 => ?_)
      refine md_if ?_ ?_
      ·
        exact md_ret
      ·
        refine md_vc (mX8_isBare v8 u10) (by decide) (fun v11 u12 => ?_)
        refine md_if ?_ ?_
        ·
          refine md_vc (mX8_holdsRow v6 u12) (by decide) (fun v13 u14 => ?_)
          refine md_if ?_ ?_
          ·
            exact md_ret
          ·
            refine md_vc (mX8_holdsRow v8 u14) (by decide) (fun v15 u16 => ?_)
            refine md_if ?_ ?_
            ·
              exact md_ret
            ·
              refine md_vc (mX8_sort v6 u16) (by decide) (fun v17 u18 => ?_)
              refine md_vc (mX8_sort v8 u18) (by decide) (fun v19 u20 => ?_)
              refine md_if ?_ ?_
              ·
                refine md_vc (mX8_hasRange v6 x2 x5 u20) (by decide) (fun v21 u22 => ?_)
                refine md_if ?_ ?_
                ·
                  exact md_ret
                ·
                  refine md_vc (mX8_hasRange v8 x4 x5 u22) (by decide) (fun v23 u24 => ?_)
                  refine md_if ?_ ?_
                  ·
                    refine md_vc (mX8_copyTo v6 x2 v8 x4 x5 u24) (by decide) (fun _ u25 => ?_)
                    exact md_ret
                  ·
                    exact md_ret
              ·
                exact md_ret
        ·
          exact md_ret
    ·
      exact md_ret
theorem mX10_taken (x0 x1 x2 : Int) (u0 : zMem) : zMd [] u0 u0 (fX10_taken x0 x1 x2 u0) := by
  unfold fX10_taken
  refine md_call (mX10_isShelf x1 u0) (by decide) (fun v1 u2 => ?_)
  refine md_if ?_ ?_
  ·
    exact md_ret
  ·
    refine md_call (mX0_isKind x2 u2) (by decide) (fun v3 u4 => ?_)
    refine md_if ?_ ?_
    ·
      refine md_gf (fun v5 => ?_)
      refine md_ald (fun v6 => ?_)
      refine md_vc (mX8_isBare v6 u4) (by decide) (fun v7 u8 => ?_)
      refine md_if ?_ ?_
      ·
        refine md_vc (mX8_holdsRow v6 u8) (by decide) (fun v9 u10 => ?_)
        refine md_jn (P := fun (f : Int → zMem → zRs) => ∀ (v11 : Int) (u12 : zMem), zMd [] u0 u12 (f v11 u12)) (fun v11 u12 => ?_) (fun k13 hk13 => ?_)
        ·
          refine md_call (mX0_isUnder v11 x2 u12) (by decide) (fun v14 u15 => ?_)
          refine md_if ?_ ?_
          ·
            exact md_ret
          ·
            exact md_ret
        ·
          refine md_if ?_ ?_
          ·
            refine md_gf (fun v16 => ?_)
            refine md_vc (mX8_heldBody v6 u10) (by decide) (fun v17 u18 => ?_)
            refine md_vc (mX0_kindOf v16 v17 u18) (by decide) (fun v19 u20 => ?_)
            exact hk13 _ _
          ·
            exact hk13 _ _
      ·
        exact md_ret
    ·
      exact md_ret
theorem mX10_count (x0 x1 : Int) (u0 : zMem) : zMd [] u0 u0 (fX10_count x0 x1 u0) := by
  unfold fX10_count
  refine md_if ?_ ?_
  ·
    refine md_gf (fun v2 => ?_)
    refine md_vc (mX5_size v2 u0) (by decide) (fun v3 u4 => ?_)
    exact md_ret
  ·
    refine md_if ?_ ?_
    ·
      refine md_gf (fun v6 => ?_)
      refine md_vc (mX3_size v6 u0) (by decide) (fun v7 u8 => ?_)
      exact md_ret
    ·
      refine md_if ?_ ?_
      ·
        refine md_gf (fun v10 => ?_)
        refine md_vc (mX1_size v10 u0) (by decide) (fun v11 u12 => ?_)
        exact md_ret
      ·
        refine md_if ?_ ?_
        ·
          refine md_gf (fun v14 => ?_)
          refine md_vc (mX9_length v14 u0) (by decide) (fun v15 u16 => ?_)
          exact md_ret
        ·
          refine md_if ?_ ?_
          ·
            refine md_gf (fun v18 => ?_)
            refine md_vc (mX2_done v18 u0) (by decide) (fun v19 u20 => ?_)
            exact md_ret
          ·
            refine md_if ?_ ?_
            ·
              refine md_gf (fun v22 => ?_)
              refine md_vc (mX0_size v22 u0) (by decide) (fun v23 u24 => ?_)
              exact md_ret
            ·
              refine md_if ?_ ?_
              ·
                refine md_gf (fun v26 => ?_)
                refine md_vc (mX0_ran v26 u0) (by decide) (fun v27 u28 => ?_)
                exact md_ret
              ·
                exact md_ret
theorem mX11_within (x0 x1 x2 : Int) (u0 : zMem) : zMd [] u0 u0 (fX11_within x0 x1 x2 u0) := by
  unfold fX11_within
  refine md_jn (P := fun (f : zMem → zRs) => ∀ (u1 : zMem), zMd [] u0 u1 (f u1)) (fun u1 => ?_) (fun k2 hk2 => ?_)
  ·
    exact md_bl md_ret
  ·
    refine md_if ?_ ?_
    ·
      exact hk2 _
    ·
      refine md_if ?_ ?_
      ·
        exact hk2 _
      ·
        exact md_bl md_ret
theorem mX11_size (x0 : Int) (u0 : zMem) : zMd [] u0 u0 (fX11_size x0 u0) := by
  unfold fX11_size
  refine md_if ?_ ?_
  ·
    exact md_ret
  ·
    exact md_ret
theorem mX11_becomes (x0 x1 x2 : Int) (u0 : zMem) : zMd [1100, 1101, 1102, 1103, 1104, 1105] u0 u0 (fX11_becomes x0 x1 x2 u0) := by
  unfold fX11_becomes
  refine md_gfA (by decide +kernel) (by decide) (fun v1 ov1 => ?_)
  refine md_ald (fun v2 => ?_)
  refine md_if ?_ ?_
  ·
    refine md_gf (fun v3 => ?_)
    refine md_jn (P := fun (f : zMem → zRs) => ∀ (u4 : zMem), zMd [1100, 1101, 1102, 1103, 1104, 1105] u0 u4 (f u4)) (fun u4 => ?_) (fun k5 hk5 => ?_)
    ·
      refine md_gfA (by decide +kernel) (by decide) (fun v6 ov6 => ?_)
      refine md_gf (fun v7 => ?_)
      refine md_ast ov6 (by decide) (by decide) (fun u8 => ?_)
      refine md_gfA (by decide +kernel) (by decide) (fun v9 ov9 => ?_)
      refine md_gf (fun v10 => ?_)
      refine md_ast ov9 (by decide) (by decide) (fun u11 => ?_)
      refine md_gfA (by decide +kernel) (by decide) (fun v12 ov12 => ?_)
      refine md_gf (fun v13 => ?_)
      refine md_ast ov12 (by decide) (by decide) (fun u14 => ?_)
      refine md_gf (fun v15 => ?_)
      refine md_pf (by decide) (by decide) (by decide) (fun u16 => ?_)
      refine md_gf (fun v17 => ?_)
      refine md_pf (by decide) (by decide) (by decide) (fun u18 => ?_)
      refine md_gfA (by decide +kernel) (by decide) (fun v19 ov19 => ?_)
      refine md_ast ov19 (by decide) (by decide) (fun u20 => ?_)
      exact md_ret
    ·
      refine md_if ?_ ?_
      ·
        exact hk5 _
      ·
        refine zlp_ind (fun (f : Int → zMem → zRs) => ∀ (v21 : Int) (u22 : zMem), zMd [1100, 1101, 1102, 1103, 1104, 1105] u0 u22 (f v21 u22)) (fun _ _ => md_none) (fun k23 hk23 v21 u22 => ?_) _ _ _
        refine md_if ?_ ?_
        ·
          refine md_gf (fun v24 => ?_)
          refine md_pf (by decide) (by decide) (by decide) (fun u25 => ?_)
          exact hk5 _
        ·
          refine md_gfA (by decide +kernel) (by decide) (fun v26 ov26 => ?_)
          refine md_gfA (by decide +kernel) (by decide) (fun v27 ov27 => ?_)
          refine md_ald (fun v28 => ?_)
          refine md_ast ov26 (by decide) (by decide) (fun u29 => ?_)
          refine md_gfA (by decide +kernel) (by decide) (fun v30 ov30 => ?_)
          refine md_gfA (by decide +kernel) (by decide) (fun v31 ov31 => ?_)
          refine md_ald (fun v32 => ?_)
          refine md_ast ov30 (by decide) (by decide) (fun u33 => ?_)
          refine md_gfA (by decide +kernel) (by decide) (fun v34 ov34 => ?_)
          refine md_gfA (by decide +kernel) (by decide) (fun v35 ov35 => ?_)
          refine md_ald (fun v36 => ?_)
          refine md_ast ov34 (by decide) (by decide) (fun u37 => ?_)
          exact hk23 _ _
  ·
    exact md_ret
theorem mX11_undo (x0 : Int) (u0 : zMem) : zMd [1100, 1105] u0 u0 (fX11_undo x0 u0) := by
  unfold fX11_undo
  refine md_gf (fun v1 => ?_)
  refine md_if ?_ ?_
  ·
    refine md_gf (fun v2 => ?_)
    refine md_pf (by decide) (by decide) (by decide) (fun u3 => ?_)
    refine md_gfA (by decide +kernel) (by decide) (fun v4 ov4 => ?_)
    refine md_gfA (by decide +kernel) (by decide) (fun v5 ov5 => ?_)
    refine md_gf (fun v6 => ?_)
    refine md_ald (fun v7 => ?_)
    refine md_gfA (by decide +kernel) (by decide) (fun v8 ov8 => ?_)
    refine md_gf (fun v9 => ?_)
    refine md_ald (fun v10 => ?_)
    refine md_ast ov4 (by decide) (by decide) (fun u11 => ?_)
    refine md_gf (fun v12 => ?_)
    exact md_ret
  ·
    exact md_ret
theorem mX11_redo (x0 : Int) (u0 : zMem) : zMd [1100, 1105] u0 u0 (fX11_redo x0 u0) := by
  unfold fX11_redo
  refine md_gf (fun v1 => ?_)
  refine md_gf (fun v2 => ?_)
  refine md_if ?_ ?_
  ·
    refine md_gfA (by decide +kernel) (by decide) (fun v3 ov3 => ?_)
    refine md_gfA (by decide +kernel) (by decide) (fun v4 ov4 => ?_)
    refine md_gf (fun v5 => ?_)
    refine md_ald (fun v6 => ?_)
    refine md_gfA (by decide +kernel) (by decide) (fun v7 ov7 => ?_)
    refine md_gf (fun v8 => ?_)
    refine md_ald (fun v9 => ?_)
    refine md_ast ov3 (by decide) (by decide) (fun u10 => ?_)
    refine md_gf (fun v11 => ?_)
    refine md_pf (by decide) (by decide) (by decide) (fun u12 => ?_)
    refine md_gf (fun v13 => ?_)
    refine md_gf (fun v14 => ?_)
    exact md_ret
  ·
    exact md_ret
theorem mX11_isSaying (x0 x1 : Int) (u0 : zMem) : zMd [] u0 u0 (fX11_isSaying x0 x1 u0) := by
  unfold fX11_isSaying
  refine md_gf (fun v1 => ?_)
  refine md_call (mX11_within x1 0 (zw32 (v1 - 1)) u0) (by decide) (fun v2 u3 => ?_)
  exact md_bl md_ret
theorem mX11_isOne (x0 x1 x2 x3 : Int) (u0 : zMem) : zMd [] u0 u0 (fX11_isOne x0 x1 x2 x3 u0) := by
  unfold fX11_isOne
  refine md_call (mX11_within x0 0 10 u0) (by decide) (fun v1 u2 => ?_)
  refine md_jn (P := fun (f : zMem → zRs) => ∀ (u3 : zMem), zMd [] u0 u3 (f u3)) (fun u3 => ?_) (fun k4 hk4 => ?_)
  ·
    exact md_bl md_ret
  ·
    refine md_if ?_ ?_
    ·
      exact hk4 _
    ·
      refine md_call (mX11_within x1 0 3 u2) (by decide) (fun v5 u6 => ?_)
      refine md_if ?_ ?_
      ·
        exact hk4 _
      ·
        refine md_call (mX11_within x2 0 7 u6) (by decide) (fun v7 u8 => ?_)
        refine md_if ?_ ?_
        ·
          exact hk4 _
        ·
          refine md_call (mX11_within x3 1 30 u8) (by decide) (fun v9 u10 => ?_)
          refine md_if ?_ ?_
          ·
            exact hk4 _
          ·
            exact md_bl md_ret
theorem mX11_adds (x0 x1 x2 x3 x4 : Int) (u0 : zMem) : zMd [1100, 1106] u0 u0 (fX11_adds x0 x1 x2 x3 x4 u0) := by
  unfold fX11_adds
  refine md_gfA (by decide +kernel) (by decide) (fun v1 ov1 => ?_)
  refine md_gf (fun v2 => ?_)
  refine md_ast ov1 (by decide) (by decide) (fun u3 => ?_)
  refine md_gfA (by decide +kernel) (by decide) (fun v4 ov4 => ?_)
  refine md_gf (fun v5 => ?_)
  refine md_ast ov4 (by decide) (by decide) (fun u6 => ?_)
  refine md_gfA (by decide +kernel) (by decide) (fun v7 ov7 => ?_)
  refine md_gf (fun v8 => ?_)
  refine md_ast ov7 (by decide) (by decide) (fun u9 => ?_)
  refine md_gfA (by decide +kernel) (by decide) (fun v10 ov10 => ?_)
  refine md_gf (fun v11 => ?_)
  refine md_ast ov10 (by decide) (by decide) (fun u12 => ?_)
  refine md_gf (fun v13 => ?_)
  refine md_pf (by decide) (by decide) (by decide) (fun u14 => ?_)
  exact md_ret
theorem mX11_saying (x0 x1 x2 : Int) (u0 : zMem) : zMd [1100, 1106] u0 u0 (fX11_saying x0 x1 x2 u0) := by
  unfold fX11_saying
  refine md_if ?_ ?_
  ·
    exact md_ret
  ·
    refine md_if ?_ ?_
    ·
      exact md_ret
    ·
      refine md_nz ?_
      refine md_nz ?_
      refine md_nz ?_
      refine md_nz ?_
      refine md_call (mX11_isOne (zw32 (Int.tdiv x1 10)) (Int.tmod x1 10) (zw32 (Int.tdiv x2 100)) (Int.tmod x2 100) u0) (by decide) (fun v1 u2 => ?_)
      refine md_if ?_ ?_
      ·
        refine md_gf (fun v3 => ?_)
        refine md_if ?_ ?_
        ·
          refine md_nz ?_
          refine md_nz ?_
          refine md_nz ?_
          refine md_nz ?_
          refine md_vc (mX11_adds x0 (zw32 (Int.tdiv x1 10)) (Int.tmod x1 10) (zw32 (Int.tdiv x2 100)) (Int.tmod x2 100) u2) (by decide) (fun _ u4 => ?_)
          refine md_gf (fun v5 => ?_)
          exact md_ret
        ·
          exact md_ret
      ·
        exact md_ret
theorem mX11_isShelf (x0 : Int) (u0 : zMem) : zMd [] u0 u0 (fX11_isShelf x0 u0) := by
  unfold fX11_isShelf
  refine md_call (mX11_within x0 0 5 u0) (by decide) (fun v1 u2 => ?_)
  exact md_bl md_ret
theorem mX11_sayings (x0 x1 x2 x3 : Int) (u0 : zMem) : zMd [1100, 1106] u0 u0 (fX11_sayings x0 x1 x2 x3 u0) := by
  unfold fX11_sayings
  refine md_call (mX11_isShelf x1 u0) (by decide) (fun v1 u2 => ?_)
  refine md_if ?_ ?_
  ·
    exact md_ret
  ·
    refine md_call (mX11_within x3 1 15 u2) (by decide) (fun v3 u4 => ?_)
    refine md_if ?_ ?_
    ·
      refine md_gfA (by decide +kernel) (by decide) (fun v5 ov5 => ?_)
      refine md_ald (fun v6 => ?_)
      refine md_jn (P := fun (f : zMem → zRs) => ∀ (u7 : zMem), zMd [1100, 1106] u0 u7 (f u7)) (fun u7 => ?_) (fun k8 hk8 => ?_)
      ·
        refine md_gfA (by decide +kernel) (by decide) (fun v9 ov9 => ?_)
        refine md_ald (fun v10 => ?_)
        refine md_jn (P := fun (f : Int → zMem → zRs) => ∀ (v11 : Int) (u12 : zMem), zMd [1100, 1106] u0 u12 (f v11 u12)) (fun v11 u12 => ?_) (fun k13 hk13 => ?_)
        ·
          refine zlp_ind (fun (f : Int → Int → zMem → zRs) => ∀ (v14 : Int) (v15 : Int) (u16 : zMem), zMd [1100, 1106] u0 u16 (f v14 v15 u16)) (fun _ _ _ => md_none) (fun k17 hk17 v14 v15 u16 => ?_) _ _ _ _
          refine md_if ?_ ?_
          ·
            exact md_ret
          ·
            refine md_if ?_ ?_
            ·
              exact md_ret
            ·
              refine md_gfA (by decide +kernel) (by decide) (fun v18 ov18 => ?_)
              refine md_ald (fun v19 => ?_)
              refine md_jn (P := fun (f : Int → zMem → zRs) => ∀ (v20 : Int) (u21 : zMem), zMd [1100, 1106] u0 u21 (f v20 u21)) (fun v20 u21 => ?_) (fun k22 hk22 => ?_)
              ·
                refine md_jn (P := fun (f : Int → zMem → zRs) => ∀ (v23 : Int) (u24 : zMem), zMd [1100, 1106] u0 u24 (f v23 u24)) (fun v23 u24 => ?_) (fun k25 hk25 => ?_)
                ·
                  refine md_jn (P := fun (f : Int → zMem → zRs) => ∀ (v26 : Int) (u27 : zMem), zMd [1100, 1106] u0 u27 (f v26 u27)) (fun v26 u27 => ?_) (fun k28 hk28 => ?_)
                  ·
                    exact hk17 _ _ _
                  ·
                    refine md_if ?_ ?_
                    ·
                      exact hk28 _ _
                    ·
                      refine md_gfA (by decide +kernel) (by decide) (fun v29 ov29 => ?_)
                      refine md_ald (fun v30 => ?_)
                      refine md_gfA (by decide +kernel) (by decide) (fun v31 ov31 => ?_)
                      refine md_ald (fun v32 => ?_)
                      refine md_gfA (by decide +kernel) (by decide) (fun v33 ov33 => ?_)
                      refine md_ald (fun v34 => ?_)
                      refine md_gfA (by decide +kernel) (by decide) (fun v35 ov35 => ?_)
                      refine md_ald (fun v36 => ?_)
                      refine md_vc (mX11_adds x0 (zw32 v30) (zw32 v32) (zw32 v34) (zw32 v36) u24) (by decide) (fun _ u37 => ?_)
                      exact hk28 _ _
                ·
                  refine md_jn (P := fun (f : zMem → zRs) => ∀ (u38 : zMem), zMd [1100, 1106] u0 u38 (f u38)) (fun u38 => ?_) (fun k39 hk39 => ?_)
                  ·
                    exact hk25 _ _
                  ·
                    refine md_if ?_ ?_
                    ·
                      exact hk39 _
                    ·
                      refine md_gfA (by decide +kernel) (by decide) (fun v40 ov40 => ?_)
                      refine md_ald (fun v41 => ?_)
                      refine md_gfA (by decide +kernel) (by decide) (fun v42 ov42 => ?_)
                      refine md_ald (fun v43 => ?_)
                      refine md_gfA (by decide +kernel) (by decide) (fun v44 ov44 => ?_)
                      refine md_ald (fun v45 => ?_)
                      refine md_gfA (by decide +kernel) (by decide) (fun v46 ov46 => ?_)
                      refine md_ald (fun v47 => ?_)
                      refine md_call (mX11_isOne v41 v43 v45 v47 u21) (by decide) (fun v48 u49 => ?_)
                      refine md_if ?_ ?_
                      ·
                        exact hk39 _
                      ·
                        exact hk25 _ _
              ·
                refine md_jn (P := fun (f : zMem → zRs) => ∀ (u50 : zMem), zMd [1100, 1106] u0 u50 (f u50)) (fun u50 => ?_) (fun k51 hk51 => ?_)
                ·
                  exact hk22 _ _
                ·
                  refine md_if ?_ ?_
                  ·
                    exact hk51 _
                  ·
                    refine md_gf (fun v52 => ?_)
                    refine md_if ?_ ?_
                    ·
                      exact hk51 _
                    ·
                      exact hk22 _ _
        ·
          refine md_jn (P := fun (f : zMem → zRs) => ∀ (u53 : zMem), zMd [1100, 1106] u0 u53 (f u53)) (fun u53 => ?_) (fun k54 hk54 => ?_)
          ·
            exact hk13 _ _
          ·
            refine md_if ?_ ?_
            ·
              exact hk54 _
            ·
              refine md_if ?_ ?_
              ·
                exact hk54 _
              ·
                exact hk13 _ _
      ·
        refine md_if ?_ ?_
        ·
          exact hk8 _
        ·
          refine md_gfA (by decide +kernel) (by decide) (fun v55 ov55 => ?_)
          refine md_ald (fun v56 => ?_)
          refine md_if ?_ ?_
          ·
            exact hk8 _
          ·
            exact md_ret
    ·
      exact md_ret
theorem mX11_mend (x0 x1 x2 x3 : Int) (u0 : zMem) : zMd [1100, 1101, 1102, 1103, 1104, 1105] u0 u0 (fX11_mend x0 x1 x2 x3 u0) := by
  unfold fX11_mend
  refine md_vc (mX11_isSaying x0 x1 u0) (by decide) (fun v1 u2 => ?_)
  refine md_if ?_ ?_
  ·
    exact md_ret
  ·
    refine md_call (mX11_within x2 0 3 u2) (by decide) (fun v3 u4 => ?_)
    refine md_if ?_ ?_
    ·
      refine md_jn (P := fun (f : Int → zMem → zRs) => ∀ (v5 : Int) (u6 : zMem), zMd [1100, 1101, 1102, 1103, 1104, 1105] u0 u6 (f v5 u6)) (fun v5 u6 => ?_) (fun k7 hk7 => ?_)
      ·
        refine md_if ?_ ?_
        ·
          exact md_ret
        ·
          refine md_vc (mX11_becomes x0 (zw32 ((zw32 (16 * x2)) + x1)) x3 u6) (by decide) (fun v8 u9 => ?_)
          exact md_ret
      ·
        refine md_if ?_ ?_
        ·
          refine md_jn (P := fun (f : Int → zMem → zRs) => ∀ (v10 : Int) (u11 : zMem), zMd [1100, 1101, 1102, 1103, 1104, 1105] u0 u11 (f v10 u11)) (fun v10 u11 => ?_) (fun k12 hk12 => ?_)
          ·
            refine md_call (mX11_within x3 0 v10 u11) (by decide) (fun v13 u14 => ?_)
            exact hk7 _ _
          ·
            refine md_if ?_ ?_
            ·
              refine md_if ?_ ?_
              ·
                exact hk12 _ _
              ·
                exact hk12 _ _
            ·
              exact hk12 _ _
        ·
          refine md_call (mX11_within x3 1 30 u4) (by decide) (fun v15 u16 => ?_)
          exact hk7 _ _
    ·
      exact md_ret
theorem mX11_minuteOf (x0 x1 : Int) (u0 : zMem) : zMd [] u0 u0 (fX11_minuteOf x0 x1 u0) := by
  unfold fX11_minuteOf
  refine zlp_ind (fun (f : Int → Int → zMem → zRs) => ∀ (v1 : Int) (v2 : Int) (u3 : zMem), zMd [] u0 u3 (f v1 v2 u3)) (fun _ _ _ => md_none) (fun k4 hk4 v1 v2 u3 => ?_) _ _ _ _
  refine md_if ?_ ?_
  ·
    exact md_ret
  ·
    refine md_gfA (by decide +kernel) (by decide) (fun v5 ov5 => ?_)
    refine md_ald (fun v6 => ?_)
    exact hk4 _ _ _
theorem mX11_of (x0 x1 x2 : Int) (u0 : zMem) : zMd [] u0 u0 (fX11_of x0 x1 x2 u0) := by
  unfold fX11_of
  refine md_vc (mX11_isSaying x0 x1 u0) (by decide) (fun v1 u2 => ?_)
  refine md_if ?_ ?_
  ·
    exact md_ret
  ·
    refine md_call (mX11_within x2 0 4 u2) (by decide) (fun v3 u4 => ?_)
    refine md_if ?_ ?_
    ·
      refine md_if ?_ ?_
      ·
        refine md_gfA (by decide +kernel) (by decide) (fun v5 ov5 => ?_)
        refine md_ald (fun v6 => ?_)
        exact md_ret
      ·
        refine md_vc (mX11_minuteOf x0 x1 u4) (by decide) (fun v7 u8 => ?_)
        exact md_ret
    ·
      exact md_ret
theorem mX11_isWriter (x0 x1 : Int) (u0 : zMem) : zMd [] u0 u0 (fX11_isWriter x0 x1 u0) := by
  unfold fX11_isWriter
  refine md_gf (fun v1 => ?_)
  refine md_call (mX11_within x1 0 (zw32 (v1 - 1)) u0) (by decide) (fun v2 u3 => ?_)
  exact md_bl md_ret
theorem mX11_feed (x0 x1 : Int) (u0 : zMem) : zMd [1107, 1108] u0 u0 (fX11_feed x0 x1 u0) := by
  unfold fX11_feed
  refine md_call (mX11_within x1 0 255 u0) (by decide) (fun v1 u2 => ?_)
  refine md_if ?_ ?_
  ·
    refine md_gf (fun v3 => ?_)
    refine md_if ?_ ?_
    ·
      refine md_gfA (by decide +kernel) (by decide) (fun v4 ov4 => ?_)
      refine md_gf (fun v5 => ?_)
      refine md_ast ov4 (by decide) (by decide) (fun u6 => ?_)
      refine md_gf (fun v7 => ?_)
      refine md_pf (by decide) (by decide) (by decide) (fun u8 => ?_)
      refine md_gf (fun v9 => ?_)
      exact md_ret
    ·
      exact md_ret
  ·
    exact md_ret
theorem mX11_byteAt (x0 : Int) (u0 : zMem) : zMd [] u0 u0 (fX11_byteAt x0 u0) := by
  unfold fX11_byteAt
  refine md_gf (fun v1 => ?_)
  refine md_gf (fun v2 => ?_)
  refine md_if ?_ ?_
  ·
    exact md_ret
  ·
    refine md_gf (fun v3 => ?_)
    refine md_if ?_ ?_
    ·
      refine md_gfA (by decide +kernel) (by decide) (fun v4 ov4 => ?_)
      refine md_gf (fun v5 => ?_)
      refine md_gf (fun v6 => ?_)
      refine md_ald (fun v7 => ?_)
      exact md_ret
    ·
      refine md_gfA (by decide +kernel) (by decide) (fun v8 ov8 => ?_)
      refine md_gf (fun v9 => ?_)
      refine md_ald (fun v10 => ?_)
      exact md_ret
theorem mX11_wrong (x0 : Int) (u0 : zMem) : zMd [1117] u0 u0 (fX11_wrong x0 u0) := by
  unfold fX11_wrong
  refine md_gf (fun v1 => ?_)
  refine md_jn (P := fun (f : Int → zMem → zRs) => ∀ (v2 : Int) (u3 : zMem), zMd [1117] u0 u3 (f v2 u3)) (fun v2 u3 => ?_) (fun k4 hk4 => ?_)
  ·
    refine md_pf (by decide) (by decide) (by decide) (fun u5 => ?_)
    exact md_ret
  ·
    refine md_if ?_ ?_
    ·
      refine md_gf (fun v6 => ?_)
      exact hk4 _ _
    ·
      refine md_gf (fun v7 => ?_)
      exact hk4 _ _
theorem mX11_takes (x0 x1 : Int) (u0 : zMem) : zMd [1115] u0 u0 (fX11_takes x0 x1 u0) := by
  unfold fX11_takes
  refine md_gf (fun v1 => ?_)
  refine md_if ?_ ?_
  ·
    exact md_bl md_ret
  ·
    refine md_vc (mX11_byteAt x0 u0) (by decide) (fun v2 u3 => ?_)
    refine md_if ?_ ?_
    ·
      refine md_gf (fun v4 => ?_)
      refine md_pf (by decide) (by decide) (by decide) (fun u5 => ?_)
      exact md_bl md_ret
    ·
      exact md_bl md_ret
theorem mX11_nameOf (x0 : Int) (u0 : zMem) : zMd [] u0 u0 (fX11_nameOf x0 u0) := by
  unfold fX11_nameOf
  refine md_if ?_ ?_
  ·
    exact md_ret
  ·
    refine md_if ?_ ?_
    ·
      exact md_ret
    ·
      refine md_if ?_ ?_
      ·
        exact md_ret
      ·
        refine md_if ?_ ?_
        ·
          exact md_ret
        ·
          refine md_if ?_ ?_
          ·
            exact md_ret
          ·
            refine md_if ?_ ?_
            ·
              exact md_ret
            ·
              refine md_if ?_ ?_
              ·
                exact md_ret
              ·
                refine md_if ?_ ?_
                ·
                  exact md_ret
                ·
                  refine md_if ?_ ?_
                  ·
                    exact md_ret
                  ·
                    refine md_if ?_ ?_
                    ·
                      exact md_ret
                    ·
                      refine md_if ?_ ?_
                      ·
                        exact md_ret
                      ·
                        refine md_if ?_ ?_
                        ·
                          exact md_ret
                        ·
                          refine md_if ?_ ?_
                          ·
                            exact md_ret
                          ·
                            refine md_if ?_ ?_
                            ·
                              exact md_ret
                            ·
                              refine md_if ?_ ?_
                              ·
                                exact md_ret
                              ·
                                exact md_ret
theorem gX11_either_m0 (rec : (Int → zMem → zRs) × (Int → zMem → zRs) × (Int → zMem → zRs) × (Int → zMem → zRs) × (Int → zMem → zRs) × (Int → zMem → zRs)) (ih : (∀ (x0 : Int) (u0 : zMem), zMd [1115, 1117, 1118] u0 u0 (rec.1 x0 u0)) ∧ (∀ (x0 : Int) (u0 : zMem), zMd [1115, 1117, 1118] u0 u0 (rec.2.1 x0 u0)) ∧ (∀ (x0 : Int) (u0 : zMem), zMd [1115, 1117, 1118] u0 u0 (rec.2.2.1 x0 u0)) ∧ (∀ (x0 : Int) (u0 : zMem), zMd [1115, 1117, 1118] u0 u0 (rec.2.2.2.1 x0 u0)) ∧ (∀ (x0 : Int) (u0 : zMem), zMd [1115, 1117, 1118] u0 u0 (rec.2.2.2.2.1 x0 u0)) ∧ (∀ (x0 : Int) (u0 : zMem), zMd [1115, 1117, 1118] u0 u0 (rec.2.2.2.2.2 x0 u0))) : ∀ (x0 : Int) (u0 : zMem), zMd [1115, 1117, 1118] u0 u0 (gX11_either_b0 rec x0 u0) := by
  intro x0 u0
  unfold gX11_either_b0
  refine md_vc (ih.2.1 x0 u0) (fun _ h => h) (fun v1 u2 => ?_)
  refine zlp_ind (fun (f : Int → zMem → zRs) => ∀ (v3 : Int) (u4 : zMem), zMd [1115, 1117, 1118] u0 u4 (f v3 u4)) (fun _ _ => md_none) (fun k5 hk5 v3 u4 => ?_) _ _ _
  refine md_vc (mX11_takes x0 124 u4) (by decide) (fun v6 u7 => ?_)
  refine md_if ?_ ?_
  ·
    exact md_ret
  ·
    refine md_vc (ih.2.1 x0 u7) (fun _ h => h) (fun v8 u9 => ?_)
    refine md_jn (P := fun (f : Int → zMem → zRs) => ∀ (v10 : Int) (u11 : zMem), zMd [1115, 1117, 1118] u0 u11 (f v10 u11)) (fun v10 u11 => ?_) (fun k12 hk12 => ?_)
    ·
      exact hk5 _ _
    ·
      refine md_jn (P := fun (f : zMem → zRs) => ∀ (u13 : zMem), zMd [1115, 1117, 1118] u0 u13 (f u13)) (fun u13 => ?_) (fun k14 hk14 => ?_)
      ·
        exact hk12 _ _
      ·
        refine md_if ?_ ?_
        ·
          exact hk14 _
        ·
          refine md_if ?_ ?_
          ·
            exact hk12 _ _
          ·
            exact hk14 _
theorem gX11_either_m1 (rec : (Int → zMem → zRs) × (Int → zMem → zRs) × (Int → zMem → zRs) × (Int → zMem → zRs) × (Int → zMem → zRs) × (Int → zMem → zRs)) (ih : (∀ (x0 : Int) (u0 : zMem), zMd [1115, 1117, 1118] u0 u0 (rec.1 x0 u0)) ∧ (∀ (x0 : Int) (u0 : zMem), zMd [1115, 1117, 1118] u0 u0 (rec.2.1 x0 u0)) ∧ (∀ (x0 : Int) (u0 : zMem), zMd [1115, 1117, 1118] u0 u0 (rec.2.2.1 x0 u0)) ∧ (∀ (x0 : Int) (u0 : zMem), zMd [1115, 1117, 1118] u0 u0 (rec.2.2.2.1 x0 u0)) ∧ (∀ (x0 : Int) (u0 : zMem), zMd [1115, 1117, 1118] u0 u0 (rec.2.2.2.2.1 x0 u0)) ∧ (∀ (x0 : Int) (u0 : zMem), zMd [1115, 1117, 1118] u0 u0 (rec.2.2.2.2.2 x0 u0))) : ∀ (x0 : Int) (u0 : zMem), zMd [1115, 1117, 1118] u0 u0 (gX11_either_b1 rec x0 u0) := by
  intro x0 u0
  unfold gX11_either_b1
  refine md_vc (ih.2.2.1 x0 u0) (fun _ h => h) (fun v1 u2 => ?_)
  refine zlp_ind (fun (f : Int → zMem → zRs) => ∀ (v3 : Int) (u4 : zMem), zMd [1115, 1117, 1118] u0 u4 (f v3 u4)) (fun _ _ => md_none) (fun k5 hk5 v3 u4 => ?_) _ _ _
  refine md_vc (mX11_takes x0 38 u4) (by decide) (fun v6 u7 => ?_)
  refine md_if ?_ ?_
  ·
    exact md_ret
  ·
    refine md_vc (ih.2.2.1 x0 u7) (fun _ h => h) (fun v8 u9 => ?_)
    refine md_jn (P := fun (f : Int → zMem → zRs) => ∀ (v10 : Int) (u11 : zMem), zMd [1115, 1117, 1118] u0 u11 (f v10 u11)) (fun v10 u11 => ?_) (fun k12 hk12 => ?_)
    ·
      exact hk5 _ _
    ·
      refine md_jn (P := fun (f : zMem → zRs) => ∀ (u13 : zMem), zMd [1115, 1117, 1118] u0 u13 (f u13)) (fun u13 => ?_) (fun k14 hk14 => ?_)
      ·
        exact hk12 _ _
      ·
        refine md_if ?_ ?_
        ·
          exact hk14 _
        ·
          refine md_if ?_ ?_
          ·
            exact hk14 _
          ·
            exact hk12 _ _
theorem gX11_either_m2 (rec : (Int → zMem → zRs) × (Int → zMem → zRs) × (Int → zMem → zRs) × (Int → zMem → zRs) × (Int → zMem → zRs) × (Int → zMem → zRs)) (ih : (∀ (x0 : Int) (u0 : zMem), zMd [1115, 1117, 1118] u0 u0 (rec.1 x0 u0)) ∧ (∀ (x0 : Int) (u0 : zMem), zMd [1115, 1117, 1118] u0 u0 (rec.2.1 x0 u0)) ∧ (∀ (x0 : Int) (u0 : zMem), zMd [1115, 1117, 1118] u0 u0 (rec.2.2.1 x0 u0)) ∧ (∀ (x0 : Int) (u0 : zMem), zMd [1115, 1117, 1118] u0 u0 (rec.2.2.2.1 x0 u0)) ∧ (∀ (x0 : Int) (u0 : zMem), zMd [1115, 1117, 1118] u0 u0 (rec.2.2.2.2.1 x0 u0)) ∧ (∀ (x0 : Int) (u0 : zMem), zMd [1115, 1117, 1118] u0 u0 (rec.2.2.2.2.2 x0 u0))) : ∀ (x0 : Int) (u0 : zMem), zMd [1115, 1117, 1118] u0 u0 (gX11_either_b2 rec x0 u0) := by
  intro x0 u0
  unfold gX11_either_b2
  refine md_vc (ih.2.2.2.1 x0 u0) (fun _ h => h) (fun v1 u2 => ?_)
  refine md_vc (mX11_byteAt x0 u2) (by decide) (fun v3 u4 => ?_)
  refine md_gf (fun v5 => ?_)
  refine md_if ?_ ?_
  ·
    exact md_ret
  ·
    refine md_jn (P := fun (f : zMem → zRs) => ∀ (u6 : zMem), zMd [1115, 1117, 1118] u0 u6 (f u6)) (fun u6 => ?_) (fun k7 hk7 => ?_)
    ·
      refine md_gf (fun v8 => ?_)
      refine md_pf (by decide) (by decide) (by decide) (fun u9 => ?_)
      refine md_vc (ih.2.2.2.1 x0 u9) (fun _ h => h) (fun v10 u11 => ?_)
      refine md_jn (P := fun (f : zMem → zRs) => ∀ (u12 : zMem), zMd [1115, 1117, 1118] u0 u12 (f u12)) (fun u12 => ?_) (fun k13 hk13 => ?_)
      ·
        exact md_ret
      ·
        refine md_jn (P := fun (f : zMem → zRs) => ∀ (u14 : zMem), zMd [1115, 1117, 1118] u0 u14 (f u14)) (fun u14 => ?_) (fun k15 hk15 => ?_)
        ·
          exact md_ret
        ·
          refine md_if ?_ ?_
          ·
            refine md_if ?_ ?_
            ·
              refine md_if ?_ ?_
              ·
                exact hk13 _
              ·
                exact hk15 _
            ·
              refine md_if ?_ ?_
              ·
                exact hk13 _
              ·
                exact hk15 _
          ·
            refine md_if ?_ ?_
            ·
              exact hk13 _
            ·
              exact hk15 _
    ·
      refine md_if ?_ ?_
      ·
        exact hk7 _
      ·
        refine md_if ?_ ?_
        ·
          exact hk7 _
        ·
          refine md_if ?_ ?_
          ·
            exact hk7 _
          ·
            exact md_ret
theorem gX11_either_m3 (rec : (Int → zMem → zRs) × (Int → zMem → zRs) × (Int → zMem → zRs) × (Int → zMem → zRs) × (Int → zMem → zRs) × (Int → zMem → zRs)) (ih : (∀ (x0 : Int) (u0 : zMem), zMd [1115, 1117, 1118] u0 u0 (rec.1 x0 u0)) ∧ (∀ (x0 : Int) (u0 : zMem), zMd [1115, 1117, 1118] u0 u0 (rec.2.1 x0 u0)) ∧ (∀ (x0 : Int) (u0 : zMem), zMd [1115, 1117, 1118] u0 u0 (rec.2.2.1 x0 u0)) ∧ (∀ (x0 : Int) (u0 : zMem), zMd [1115, 1117, 1118] u0 u0 (rec.2.2.2.1 x0 u0)) ∧ (∀ (x0 : Int) (u0 : zMem), zMd [1115, 1117, 1118] u0 u0 (rec.2.2.2.2.1 x0 u0)) ∧ (∀ (x0 : Int) (u0 : zMem), zMd [1115, 1117, 1118] u0 u0 (rec.2.2.2.2.2 x0 u0))) : ∀ (x0 : Int) (u0 : zMem), zMd [1115, 1117, 1118] u0 u0 (gX11_either_b3 rec x0 u0) := by
  intro x0 u0
  unfold gX11_either_b3
  refine md_vc (ih.2.2.2.2.1 x0 u0) (fun _ h => h) (fun v1 u2 => ?_)
  refine zlp_ind (fun (f : Int → zMem → zRs) => ∀ (v3 : Int) (u4 : zMem), zMd [1115, 1117, 1118] u0 u4 (f v3 u4)) (fun _ _ => md_none) (fun k5 hk5 v3 u4 => ?_) _ _ _
  refine md_gf (fun v6 => ?_)
  refine md_if ?_ ?_
  ·
    exact md_ret
  ·
    refine md_vc (mX11_byteAt x0 u4) (by decide) (fun v7 u8 => ?_)
    refine md_jn (P := fun (f : zMem → zRs) => ∀ (u9 : zMem), zMd [1115, 1117, 1118] u0 u9 (f u9)) (fun u9 => ?_) (fun k10 hk10 => ?_)
    ·
      refine md_vc (mX11_byteAt x0 u9) (by decide) (fun v11 u12 => ?_)
      refine md_jn (P := fun (f : Int → zMem → zRs) => ∀ (v13 : Int) (u14 : zMem), zMd [1115, 1117, 1118] u0 u14 (f v13 u14)) (fun v13 u14 => ?_) (fun k15 hk15 => ?_)
      ·
        refine md_gf (fun v16 => ?_)
        refine md_pf (by decide) (by decide) (by decide) (fun u17 => ?_)
        refine md_vc (ih.2.2.2.2.1 x0 u17) (fun _ h => h) (fun v18 u19 => ?_)
        refine md_jn (P := fun (f : Int → zMem → zRs) => ∀ (v20 : Int) (u21 : zMem), zMd [1115, 1117, 1118] u0 u21 (f v20 u21)) (fun v20 u21 => ?_) (fun k22 hk22 => ?_)
        ·
          exact hk5 _ _
        ·
          refine md_if ?_ ?_
          ·
            exact hk22 _ _
          ·
            exact hk22 _ _
      ·
        refine md_if ?_ ?_
        ·
          exact hk15 _ _
        ·
          exact hk15 _ _
    ·
      refine md_if ?_ ?_
      ·
        exact hk10 _
      ·
        refine md_vc (mX11_byteAt x0 u8) (by decide) (fun v23 u24 => ?_)
        refine md_if ?_ ?_
        ·
          exact md_ret
        ·
          exact hk10 _
theorem gX11_either_m4 (rec : (Int → zMem → zRs) × (Int → zMem → zRs) × (Int → zMem → zRs) × (Int → zMem → zRs) × (Int → zMem → zRs) × (Int → zMem → zRs)) (ih : (∀ (x0 : Int) (u0 : zMem), zMd [1115, 1117, 1118] u0 u0 (rec.1 x0 u0)) ∧ (∀ (x0 : Int) (u0 : zMem), zMd [1115, 1117, 1118] u0 u0 (rec.2.1 x0 u0)) ∧ (∀ (x0 : Int) (u0 : zMem), zMd [1115, 1117, 1118] u0 u0 (rec.2.2.1 x0 u0)) ∧ (∀ (x0 : Int) (u0 : zMem), zMd [1115, 1117, 1118] u0 u0 (rec.2.2.2.1 x0 u0)) ∧ (∀ (x0 : Int) (u0 : zMem), zMd [1115, 1117, 1118] u0 u0 (rec.2.2.2.2.1 x0 u0)) ∧ (∀ (x0 : Int) (u0 : zMem), zMd [1115, 1117, 1118] u0 u0 (rec.2.2.2.2.2 x0 u0))) : ∀ (x0 : Int) (u0 : zMem), zMd [1115, 1117, 1118] u0 u0 (gX11_either_b4 rec x0 u0) := by
  intro x0 u0
  unfold gX11_either_b4
  refine md_vc (ih.2.2.2.2.2 x0 u0) (fun _ h => h) (fun v1 u2 => ?_)
  refine md_vc (mX11_byteAt x0 u2) (by decide) (fun v3 u4 => ?_)
  refine zlp_ind (fun (f : Int → Int → zMem → zRs) => ∀ (v5 : Int) (v6 : Int) (u7 : zMem), zMd [1115, 1117, 1118] u0 u7 (f v5 v6 u7)) (fun _ _ _ => md_none) (fun k8 hk8 v5 v6 u7 => ?_) _ _ _ _
  refine md_gf (fun v9 => ?_)
  refine md_if ?_ ?_
  ·
    exact md_ret
  ·
    refine md_jn (P := fun (f : zMem → zRs) => ∀ (u10 : zMem), zMd [1115, 1117, 1118] u0 u10 (f u10)) (fun u10 => ?_) (fun k11 hk11 => ?_)
    ·
      refine md_gf (fun v12 => ?_)
      refine md_pf (by decide) (by decide) (by decide) (fun u13 => ?_)
      refine md_vc (ih.2.2.2.2.2 x0 u13) (fun _ h => h) (fun v14 u15 => ?_)
      refine md_jn (P := fun (f : Int → zMem → zRs) => ∀ (v16 : Int) (u17 : zMem), zMd [1115, 1117, 1118] u0 u17 (f v16 u17)) (fun v16 u17 => ?_) (fun k18 hk18 => ?_)
      ·
        refine md_vc (mX11_byteAt x0 u17) (by decide) (fun v19 u20 => ?_)
        exact hk8 _ _ _
      ·
        refine md_if ?_ ?_
        ·
          refine md_if ?_ ?_
          ·
            refine md_if ?_ ?_
            ·
              refine md_nz ?_
              exact hk18 _ _
            ·
              refine md_nz ?_
              exact hk18 _ _
          ·
            exact hk18 _ _
        ·
          exact hk18 _ _
    ·
      refine md_if ?_ ?_
      ·
        exact hk11 _
      ·
        refine md_if ?_ ?_
        ·
          exact hk11 _
        ·
          refine md_if ?_ ?_
          ·
            exact md_ret
          ·
            exact hk11 _
theorem gX11_either_m5 (rec : (Int → zMem → zRs) × (Int → zMem → zRs) × (Int → zMem → zRs) × (Int → zMem → zRs) × (Int → zMem → zRs) × (Int → zMem → zRs)) (ih : (∀ (x0 : Int) (u0 : zMem), zMd [1115, 1117, 1118] u0 u0 (rec.1 x0 u0)) ∧ (∀ (x0 : Int) (u0 : zMem), zMd [1115, 1117, 1118] u0 u0 (rec.2.1 x0 u0)) ∧ (∀ (x0 : Int) (u0 : zMem), zMd [1115, 1117, 1118] u0 u0 (rec.2.2.1 x0 u0)) ∧ (∀ (x0 : Int) (u0 : zMem), zMd [1115, 1117, 1118] u0 u0 (rec.2.2.2.1 x0 u0)) ∧ (∀ (x0 : Int) (u0 : zMem), zMd [1115, 1117, 1118] u0 u0 (rec.2.2.2.2.1 x0 u0)) ∧ (∀ (x0 : Int) (u0 : zMem), zMd [1115, 1117, 1118] u0 u0 (rec.2.2.2.2.2 x0 u0))) : ∀ (x0 : Int) (u0 : zMem), zMd [1115, 1117, 1118] u0 u0 (gX11_either_b5 rec x0 u0) := by
  intro x0 u0
  unfold gX11_either_b5
  refine md_gf (fun v1 => ?_)
  refine md_if ?_ ?_
  ·
    refine md_vc (mX11_byteAt x0 u0) (by decide) (fun v2 u3 => ?_)
    refine md_jn (P := fun (f : zMem → zRs) => ∀ (u4 : zMem), zMd [1115, 1117, 1118] u0 u4 (f u4)) (fun u4 => ?_) (fun k5 hk5 => ?_)
    ·
      refine md_gf (fun v6 => ?_)
      refine md_if ?_ ?_
      ·
        refine md_gf (fun v7 => ?_)
        refine md_pf (by decide) (by decide) (by decide) (fun u8 => ?_)
        refine md_gf (fun v9 => ?_)
        refine md_pf (by decide) (by decide) (by decide) (fun u10 => ?_)
        refine md_jn (P := fun (f : Int → zMem → zRs) => ∀ (v11 : Int) (u12 : zMem), zMd [1115, 1117, 1118] u0 u12 (f v11 u12)) (fun v11 u12 => ?_) (fun k13 hk13 => ?_)
        ·
          refine md_jn (P := fun (f : zMem → zRs) => ∀ (u14 : zMem), zMd [1115, 1117, 1118] u0 u14 (f u14)) (fun u14 => ?_) (fun k15 hk15 => ?_)
          ·
            refine md_gf (fun v16 => ?_)
            refine md_pf (by decide) (by decide) (by decide) (fun u17 => ?_)
            refine md_if ?_ ?_
            ·
              refine md_if ?_ ?_
              ·
                refine md_if ?_ ?_
                ·
                  exact md_ret
                ·
                  exact md_ret
              ·
                exact md_ret
            ·
              exact md_ret
          ·
            refine md_if ?_ ?_
            ·
              exact hk15 _
            ·
              refine md_vc (mX11_takes x0 41 u12) (by decide) (fun v18 u19 => ?_)
              refine md_if ?_ ?_
              ·
                exact hk15 _
              ·
                refine md_vc (mX11_wrong x0 u19) (by decide) (fun v20 u21 => ?_)
                exact md_ret
        ·
          refine md_if ?_ ?_
          ·
            refine md_vc (ih.2.2.2.2.2 x0 u10) (fun _ h => h) (fun v22 u23 => ?_)
            exact hk13 _ _
          ·
            refine md_vc (ih.1 x0 u10) (fun _ h => h) (fun v24 u25 => ?_)
            exact hk13 _ _
      ·
        refine md_vc (mX11_wrong x0 u4) (by decide) (fun v26 u27 => ?_)
        exact md_ret
    ·
      refine md_if ?_ ?_
      ·
        exact hk5 _
      ·
        refine md_if ?_ ?_
        ·
          exact hk5 _
        ·
          refine md_if ?_ ?_
          ·
            refine md_call (mX11_nameOf v2 u3) (by decide) (fun v28 u29 => ?_)
            refine md_if ?_ ?_
            ·
              refine zlp_ind (fun (f : Int → Int → zMem → zRs) => ∀ (v30 : Int) (v31 : Int) (u32 : zMem), zMd [1115, 1117, 1118] u0 u32 (f v30 v31 u32)) (fun _ _ _ => md_none) (fun k33 hk33 v30 v31 u32 => ?_) _ _ _ _
              refine md_jn (P := fun (f : zMem → zRs) => ∀ (u34 : zMem), zMd [1115, 1117, 1118] u0 u34 (f u34)) (fun u34 => ?_) (fun k35 hk35 => ?_)
              ·
                refine md_if ?_ ?_
                ·
                  exact md_ret
                ·
                  refine md_vc (mX11_wrong x0 u34) (by decide) (fun v36 u37 => ?_)
                  exact md_ret
              ·
                refine md_if ?_ ?_
                ·
                  exact hk35 _
                ·
                  refine md_vc (mX11_byteAt x0 u32) (by decide) (fun v38 u39 => ?_)
                  refine md_if ?_ ?_
                  ·
                    exact hk35 _
                  ·
                    refine md_vc (mX11_byteAt x0 u39) (by decide) (fun v40 u41 => ?_)
                    refine md_if ?_ ?_
                    ·
                      exact hk35 _
                    ·
                      refine md_vc (mX11_byteAt x0 u41) (by decide) (fun v42 u43 => ?_)
                      refine md_gf (fun v44 => ?_)
                      refine md_pf (by decide) (by decide) (by decide) (fun u45 => ?_)
                      exact hk33 _ _ _
            ·
              refine md_gf (fun v46 => ?_)
              refine md_pf (by decide) (by decide) (by decide) (fun u47 => ?_)
              refine md_gfA (by decide +kernel) (by decide) (fun v48 ov48 => ?_)
              refine md_ald (fun v49 => ?_)
              exact md_ret
          ·
            exact hk5 _
  ·
    exact md_ret
theorem gX11_either_mall : ∀ n : Nat, (∀ (x0 : Int) (u0 : zMem), zMd [1115, 1117, 1118] u0 u0 ((gX11_either n).1 x0 u0)) ∧ (∀ (x0 : Int) (u0 : zMem), zMd [1115, 1117, 1118] u0 u0 ((gX11_either n).2.1 x0 u0)) ∧ (∀ (x0 : Int) (u0 : zMem), zMd [1115, 1117, 1118] u0 u0 ((gX11_either n).2.2.1 x0 u0)) ∧ (∀ (x0 : Int) (u0 : zMem), zMd [1115, 1117, 1118] u0 u0 ((gX11_either n).2.2.2.1 x0 u0)) ∧ (∀ (x0 : Int) (u0 : zMem), zMd [1115, 1117, 1118] u0 u0 ((gX11_either n).2.2.2.2.1 x0 u0)) ∧ (∀ (x0 : Int) (u0 : zMem), zMd [1115, 1117, 1118] u0 u0 ((gX11_either n).2.2.2.2.2 x0 u0))
  | 0 => ⟨fun _ _ => md_none, fun _ _ => md_none, fun _ _ => md_none, fun _ _ => md_none, fun _ _ => md_none, fun _ _ => md_none⟩
  | n + 1 => ⟨gX11_either_m0 (gX11_either n) (gX11_either_mall n), gX11_either_m1 (gX11_either n) (gX11_either_mall n), gX11_either_m2 (gX11_either n) (gX11_either_mall n), gX11_either_m3 (gX11_either n) (gX11_either_mall n), gX11_either_m4 (gX11_either n) (gX11_either_mall n), gX11_either_m5 (gX11_either n) (gX11_either_mall n)⟩
theorem mX11_either (x0 : Int) (u0 : zMem) : zMd [1115, 1117, 1118] u0 u0 (fX11_either x0 u0) := (gX11_either_mall 200).1 x0 u0
theorem mX11_both (x0 : Int) (u0 : zMem) : zMd [1115, 1117, 1118] u0 u0 (fX11_both x0 u0) := (gX11_either_mall 200).2.1 x0 u0
theorem mX11_compared (x0 : Int) (u0 : zMem) : zMd [1115, 1117, 1118] u0 u0 (fX11_compared x0 u0) := (gX11_either_mall 200).2.2.1 x0 u0
theorem mX11_sums (x0 : Int) (u0 : zMem) : zMd [1115, 1117, 1118] u0 u0 (fX11_sums x0 u0) := (gX11_either_mall 200).2.2.2.1 x0 u0
theorem mX11_product (x0 : Int) (u0 : zMem) : zMd [1115, 1117, 1118] u0 u0 (fX11_product x0 u0) := (gX11_either_mall 200).2.2.2.2.1 x0 u0
theorem mX11_one (x0 : Int) (u0 : zMem) : zMd [1115, 1117, 1118] u0 u0 (fX11_one x0 u0) := (gX11_either_mall 200).2.2.2.2.2 x0 u0
theorem mX11_workOut (x0 x1 x2 : Int) (u0 : zMem) : zMd [1114, 1115, 1116, 1117, 1118] u0 u0 (fX11_workOut x0 x1 x2 u0) := by
  unfold fX11_workOut
  refine md_pf (by decide) (by decide) (by decide) (fun u1 => ?_)
  refine md_pf (by decide) (by decide) (by decide) (fun u2 => ?_)
  refine md_pf (by decide) (by decide) (by decide) (fun u3 => ?_)
  refine md_pf (by decide) (by decide) (by decide) (fun u4 => ?_)
  refine md_pf (by decide) (by decide) (by decide) (fun u5 => ?_)
  refine zlp_ind (fun (f : Int → Int → Int → zMem → zRs) => ∀ (v6 : Int) (v7 : Int) (v8 : Int) (u9 : zMem), zMd [1114, 1115, 1116, 1117, 1118] u0 u9 (f v6 v7 v8 u9)) (fun _ _ _ _ => md_none) (fun k10 hk10 v6 v7 v8 u9 => ?_) _ _ _ _ _
  refine md_if ?_ ?_
  ·
    refine md_gf (fun v11 => ?_)
    refine md_if ?_ ?_
    ·
      exact md_ret
    ·
      refine md_gf (fun v12 => ?_)
      refine md_gf (fun v13 => ?_)
      refine md_if ?_ ?_
      ·
        exact md_ret
      ·
        refine md_vc (mX11_wrong x0 u9) (by decide) (fun v14 u15 => ?_)
        exact md_ret
  ·
    refine md_vc (mX11_either x0 u9) (by decide) (fun v16 u17 => ?_)
    refine md_vc (mX11_takes x0 63 u17) (by decide) (fun v18 u19 => ?_)
    refine md_jn (P := fun (f : Int → Int → zMem → zRs) => ∀ (v20 : Int) (v21 : Int) (u22 : zMem), zMd [1114, 1115, 1116, 1117, 1118] u0 u22 (f v20 v21 u22)) (fun v20 v21 u22 => ?_) (fun k23 hk23 => ?_)
    ·
      refine md_gf (fun v24 => ?_)
      refine md_jn (P := fun (f : Int → Int → zMem → zRs) => ∀ (v25 : Int) (v26 : Int) (u27 : zMem), zMd [1114, 1115, 1116, 1117, 1118] u0 u27 (f v25 v26 u27)) (fun v25 v26 u27 => ?_) (fun k28 hk28 => ?_)
      ·
        refine md_vc (mX11_takes x0 59 u27) (by decide) (fun v29 u30 => ?_)
        exact hk10 _ _ _ _
      ·
        refine md_if ?_ ?_
        ·
          exact hk28 _ _ _
        ·
          refine md_if ?_ ?_
          ·
            exact hk28 _ _ _
          ·
            refine md_if ?_ ?_
            ·
              exact hk28 _ _ _
            ·
              exact hk28 _ _ _
    ·
      refine md_if ?_ ?_
      ·
        exact hk23 _ _ _
      ·
        refine md_jn (P := fun (f : Int → zMem → zRs) => ∀ (v31 : Int) (u32 : zMem), zMd [1114, 1115, 1116, 1117, 1118] u0 u32 (f v31 u32)) (fun v31 u32 => ?_) (fun k33 hk33 => ?_)
        ·
          refine md_vc (mX11_either x0 u32) (by decide) (fun v34 u35 => ?_)
          exact hk23 _ _ _
        ·
          refine md_if ?_ ?_
          ·
            exact hk33 _ _
          ·
            exact hk33 _ _
theorem mX11_writer (x0 x1 x2 : Int) (u0 : zMem) : zMd [1108, 1109, 1110, 1111, 1112, 1113, 1114, 1115, 1116, 1117, 1118] u0 u0 (fX11_writer x0 x1 x2 u0) := by
  unfold fX11_writer
  refine md_call (mX11_within x1 0 10 u0) (by decide) (fun v1 u2 => ?_)
  refine md_if ?_ ?_
  ·
    exact md_ret
  ·
    refine md_call (mX11_within x2 0 7 u2) (by decide) (fun v3 u4 => ?_)
    refine md_if ?_ ?_
    ·
      refine md_gf (fun v5 => ?_)
      refine md_if ?_ ?_
      ·
        refine md_gf (fun v6 => ?_)
        refine md_vc (mX11_workOut x0 (-1) v6 u4) (by decide) (fun v7 u8 => ?_)
        refine md_gf (fun v9 => ?_)
        refine md_pf (by decide) (by decide) (by decide) (fun u10 => ?_)
        refine md_gf (fun v11 => ?_)
        refine md_if ?_ ?_
        ·
          refine zlp_ind (fun (f : Int → zMem → zRs) => ∀ (v12 : Int) (u13 : zMem), zMd [1108, 1109, 1110, 1111, 1112, 1113, 1114, 1115, 1116, 1117, 1118] u0 u13 (f v12 u13)) (fun _ _ => md_none) (fun k14 hk14 v12 u13 => ?_) _ _ _
          refine md_if ?_ ?_
          ·
            refine md_gfA (by decide +kernel) (by decide) (fun v15 ov15 => ?_)
            refine md_gf (fun v16 => ?_)
            refine md_ast ov15 (by decide) (by decide) (fun u17 => ?_)
            refine md_gfA (by decide +kernel) (by decide) (fun v18 ov18 => ?_)
            refine md_gf (fun v19 => ?_)
            refine md_ast ov18 (by decide) (by decide) (fun u20 => ?_)
            refine md_gfA (by decide +kernel) (by decide) (fun v21 ov21 => ?_)
            refine md_gf (fun v22 => ?_)
            refine md_ast ov21 (by decide) (by decide) (fun u23 => ?_)
            refine md_gf (fun v24 => ?_)
            refine md_pf (by decide) (by decide) (by decide) (fun u25 => ?_)
            refine md_gf (fun v26 => ?_)
            exact md_ret
          ·
            refine md_gfA (by decide +kernel) (by decide) (fun v27 ov27 => ?_)
            refine md_gf (fun v28 => ?_)
            refine md_gfA (by decide +kernel) (by decide) (fun v29 ov29 => ?_)
            refine md_ald (fun v30 => ?_)
            refine md_ast ov27 (by decide) (by decide) (fun u31 => ?_)
            exact hk14 _ _
        ·
          refine md_gf (fun v32 => ?_)
          exact md_ret
      ·
        exact md_ret
    ·
      exact md_ret
theorem mX11_heedOf (x0 x1 x2 : Int) (u0 : zMem) : zMd [1114, 1115, 1116, 1117, 1118, 1119] u0 u0 (fX11_heedOf x0 x1 x2 u0) := by
  unfold fX11_heedOf
  refine zlp_ind (fun (f : Int → Int → zMem → zRs) => ∀ (v1 : Int) (v2 : Int) (u3 : zMem), zMd [1114, 1115, 1116, 1117, 1118, 1119] u0 u3 (f v1 v2 u3)) (fun _ _ _ => md_none) (fun k4 hk4 v1 v2 u3 => ?_) _ _ _ _
  refine md_if ?_ ?_
  ·
    refine md_gfA (by decide +kernel) (by decide) (fun v5 ov5 => ?_)
    refine md_gfA (by decide +kernel) (by decide) (fun v6 ov6 => ?_)
    refine md_ald (fun v7 => ?_)
    refine md_ast ov5 (by decide) (by decide) (fun u8 => ?_)
    refine md_gfA (by decide +kernel) (by decide) (fun v9 ov9 => ?_)
    refine md_gfA (by decide +kernel) (by decide) (fun v10 ov10 => ?_)
    refine md_ald (fun v11 => ?_)
    refine md_ast ov9 (by decide) (by decide) (fun u12 => ?_)
    refine md_gfA (by decide +kernel) (by decide) (fun v13 ov13 => ?_)
    refine md_gfA (by decide +kernel) (by decide) (fun v14 ov14 => ?_)
    refine md_ald (fun v15 => ?_)
    refine md_ast ov13 (by decide) (by decide) (fun u16 => ?_)
    refine md_gfA (by decide +kernel) (by decide) (fun v17 ov17 => ?_)
    refine md_gfA (by decide +kernel) (by decide) (fun v18 ov18 => ?_)
    refine md_ald (fun v19 => ?_)
    refine md_ast ov17 (by decide) (by decide) (fun u20 => ?_)
    refine md_gfA (by decide +kernel) (by decide) (fun v21 ov21 => ?_)
    refine md_ast ov21 (by decide) (by decide) (fun u22 => ?_)
    refine md_gfA (by decide +kernel) (by decide) (fun v23 ov23 => ?_)
    refine md_vc (mX11_minuteOf x0 x2 u22) (by decide) (fun v24 u25 => ?_)
    refine md_ast ov23 (by decide) (by decide) (fun u26 => ?_)
    refine md_gfA (by decide +kernel) (by decide) (fun v27 ov27 => ?_)
    refine md_gfA (by decide +kernel) (by decide) (fun v28 ov28 => ?_)
    refine md_ald (fun v29 => ?_)
    refine md_gfA (by decide +kernel) (by decide) (fun v30 ov30 => ?_)
    refine md_ald (fun v31 => ?_)
    refine md_jn (P := fun (f : Int → zMem → zRs) => ∀ (v32 : Int) (u33 : zMem), zMd [1114, 1115, 1116, 1117, 1118, 1119] u0 u33 (f v32 u33)) (fun v32 u33 => ?_) (fun k34 hk34 => ?_)
    ·
      refine md_ast ov27 (by decide) (by decide) (fun u35 => ?_)
      refine md_gfA (by decide +kernel) (by decide) (fun v36 ov36 => ?_)
      refine md_ast ov36 (by decide) (by decide) (fun u37 => ?_)
      refine md_gfA (by decide +kernel) (by decide) (fun v38 ov38 => ?_)
      refine md_ald (fun v39 => ?_)
      refine md_vc (mX11_workOut x0 (zw32 (120 * x1)) v39 u37) (by decide) (fun v40 u41 => ?_)
      refine md_if ?_ ?_
      ·
        refine md_if ?_ ?_
        ·
          exact md_ret
        ·
          exact md_ret
      ·
        exact md_ret
    ·
      refine md_if ?_ ?_
      ·
        exact hk34 _ _
      ·
        exact hk34 _ _
  ·
    refine md_gfA (by decide +kernel) (by decide) (fun v42 ov42 => ?_)
    refine md_ald (fun v43 => ?_)
    refine md_gfA (by decide +kernel) (by decide) (fun v44 ov44 => ?_)
    refine md_ald (fun v45 => ?_)
    refine md_jn (P := fun (f : Int → zMem → zRs) => ∀ (v46 : Int) (u47 : zMem), zMd [1114, 1115, 1116, 1117, 1118, 1119] u0 u47 (f v46 u47)) (fun v46 u47 => ?_) (fun k48 hk48 => ?_)
    ·
      exact hk4 _ _ _
    ·
      refine md_if ?_ ?_
      ·
        exact hk48 _ _
      ·
        exact hk48 _ _
theorem mX11_heed (x0 x1 x2 : Int) (u0 : zMem) : zMd [1114, 1115, 1116, 1117, 1118, 1119] u0 u0 (fX11_heed x0 x1 x2 u0) := by
  unfold fX11_heed
  refine md_vc (mX11_isWriter x0 x1 u0) (by decide) (fun v1 u2 => ?_)
  refine md_jn (P := fun (f : zMem → zRs) => ∀ (u3 : zMem), zMd [1114, 1115, 1116, 1117, 1118, 1119] u0 u3 (f u3)) (fun u3 => ?_) (fun k4 hk4 => ?_)
  ·
    exact md_ret
  ·
    refine md_if ?_ ?_
    ·
      exact hk4 _
    ·
      refine md_vc (mX11_isSaying x0 x2 u2) (by decide) (fun v5 u6 => ?_)
      refine md_if ?_ ?_
      ·
        exact hk4 _
      ·
        refine md_vc (mX11_heedOf x0 x1 x2 u6) (by decide) (fun v7 u8 => ?_)
        exact md_ret
theorem mX11_isPaper (x0 x1 : Int) (u0 : zMem) : zMd [] u0 u0 (fX11_isPaper x0 x1 u0) := by
  unfold fX11_isPaper
  refine md_gf (fun v1 => ?_)
  refine md_call (mX11_within x1 0 (zw32 (v1 - 1)) u0) (by decide) (fun v2 u3 => ?_)
  exact md_bl md_ret
theorem mX11_puts (x0 x1 x2 x3 x4 x5 x6 : Int) (u0 : zMem) : zMd [1123, 1124, 1125, 1126] u0 u0 (fX11_puts x0 x1 x2 x3 x4 x5 x6 u0) := by
  unfold fX11_puts
  refine md_gfA (by decide +kernel) (by decide) (fun v1 ov1 => ?_)
  refine md_ast ov1 (by decide) (by decide) (fun u2 => ?_)
  refine md_gfA (by decide +kernel) (by decide) (fun v3 ov3 => ?_)
  refine md_ast ov3 (by decide) (by decide) (fun u4 => ?_)
  refine md_gfA (by decide +kernel) (by decide) (fun v5 ov5 => ?_)
  refine md_ast ov5 (by decide) (by decide) (fun u6 => ?_)
  refine md_gfA (by decide +kernel) (by decide) (fun v7 ov7 => ?_)
  refine md_bl ?_
  refine md_ast ov7 (by decide) (by decide) (fun u8 => ?_)
  exact md_ret
theorem mX11_moves (x0 x1 x2 x3 : Int) (u0 : zMem) : zMd [1123, 1124, 1125, 1126] u0 u0 (fX11_moves x0 x1 x2 x3 u0) := by
  unfold fX11_moves
  refine md_gfA (by decide +kernel) (by decide) (fun v1 ov1 => ?_)
  refine md_ald (fun v2 => ?_)
  refine md_gfA (by decide +kernel) (by decide) (fun v3 ov3 => ?_)
  refine md_ald (fun v4 => ?_)
  refine md_gfA (by decide +kernel) (by decide) (fun v5 ov5 => ?_)
  refine md_ald (fun v6 => ?_)
  refine md_gfA (by decide +kernel) (by decide) (fun v7 ov7 => ?_)
  refine md_ald (fun v8 => ?_)
  refine md_vc (mX11_puts x0 x1 x2 v2 v4 v6 v8 u0) (by decide) (fun _ u9 => ?_)
  exact md_ret
theorem mX11_fallsAway (x0 x1 x2 : Int) (u0 : zMem) : zMd [1122, 1123, 1124, 1125, 1126] u0 u0 (fX11_fallsAway x0 x1 x2 u0) := by
  unfold fX11_fallsAway
  refine zlp_ind (fun (f : Int → zMem → zRs) => ∀ (v1 : Int) (u2 : zMem), zMd [1122, 1123, 1124, 1125, 1126] u0 u2 (f v1 u2)) (fun _ _ => md_none) (fun k3 hk3 v1 u2 => ?_) _ _ _
  refine md_gfA (by decide +kernel) (by decide) (fun v4 ov4 => ?_)
  refine md_ald (fun v5 => ?_)
  refine md_if ?_ ?_
  ·
    refine md_gfA (by decide +kernel) (by decide) (fun v6 ov6 => ?_)
    refine md_ald (fun v7 => ?_)
    refine md_ast ov6 (by decide) (by decide) (fun u8 => ?_)
    exact md_ret
  ·
    refine md_vc (mX11_moves x0 x1 (zw32 (v1 - 1)) v1 u2) (by decide) (fun _ u9 => ?_)
    exact hk3 _ _
theorem mX11_joinsAll (x0 x1 : Int) (u0 : zMem) : zMd [1122, 1123, 1124, 1125, 1126] u0 u0 (fX11_joinsAll x0 x1 u0) := by
  unfold fX11_joinsAll
  refine zlp_ind (fun (f : Int → zMem → zRs) => ∀ (v1 : Int) (u2 : zMem), zMd [1122, 1123, 1124, 1125, 1126] u0 u2 (f v1 u2)) (fun _ _ => md_none) (fun k3 hk3 v1 u2 => ?_) _ _ _
  refine md_gfA (by decide +kernel) (by decide) (fun v4 ov4 => ?_)
  refine md_ald (fun v5 => ?_)
  refine md_if ?_ ?_
  ·
    exact md_ret
  ·
    refine md_gfA (by decide +kernel) (by decide) (fun v6 ov6 => ?_)
    refine md_ald (fun v7 => ?_)
    refine md_gfA (by decide +kernel) (by decide) (fun v8 ov8 => ?_)
    refine md_ald (fun v9 => ?_)
    refine md_gfA (by decide +kernel) (by decide) (fun v10 ov10 => ?_)
    refine md_ald (fun v11 => ?_)
    refine md_gfA (by decide +kernel) (by decide) (fun v12 ov12 => ?_)
    refine md_ald (fun v13 => ?_)
    refine md_jn (P := fun (f : Int → zMem → zRs) => ∀ (v14 : Int) (u15 : zMem), zMd [1122, 1123, 1124, 1125, 1126] u0 u15 (f v14 u15)) (fun v14 u15 => ?_) (fun k16 hk16 => ?_)
    ·
      exact hk3 _ _
    ·
      refine md_jn (P := fun (f : zMem → zRs) => ∀ (u17 : zMem), zMd [1122, 1123, 1124, 1125, 1126] u0 u17 (f u17)) (fun u17 => ?_) (fun k18 hk18 => ?_)
      ·
        exact hk16 _ _
      ·
        refine md_if ?_ ?_
        ·
          exact hk18 _
        ·
          refine md_gfA (by decide +kernel) (by decide) (fun v19 ov19 => ?_)
          refine md_ald (fun v20 => ?_)
          refine md_gfA (by decide +kernel) (by decide) (fun v21 ov21 => ?_)
          refine md_ald (fun v22 => ?_)
          refine md_if ?_ ?_
          ·
            exact hk18 _
          ·
            refine md_gfA (by decide +kernel) (by decide) (fun v23 ov23 => ?_)
            refine md_ald (fun v24 => ?_)
            refine md_gfA (by decide +kernel) (by decide) (fun v25 ov25 => ?_)
            refine md_ald (fun v26 => ?_)
            refine md_ast ov23 (by decide) (by decide) (fun u27 => ?_)
            refine md_vc (mX11_fallsAway x0 x1 v1 u27) (by decide) (fun _ u28 => ?_)
            exact hk16 _ _
theorem mX11_softensAll (x0 x1 : Int) (u0 : zMem) : zMd [1124] u0 u0 (fX11_softensAll x0 x1 u0) := by
  unfold fX11_softensAll
  refine zlp_ind (fun (f : Int → zMem → zRs) => ∀ (v1 : Int) (u2 : zMem), zMd [1124] u0 u2 (f v1 u2)) (fun _ _ => md_none) (fun k3 hk3 v1 u2 => ?_) _ _ _
  refine md_gfA (by decide +kernel) (by decide) (fun v4 ov4 => ?_)
  refine md_ald (fun v5 => ?_)
  refine md_if ?_ ?_
  ·
    exact md_ret
  ·
    refine md_gfA (by decide +kernel) (by decide) (fun v6 ov6 => ?_)
    refine md_gfA (by decide +kernel) (by decide) (fun v7 ov7 => ?_)
    refine md_ald (fun v8 => ?_)
    refine md_jn (P := fun (f : Int → zMem → zRs) => ∀ (v9 : Int) (u10 : zMem), zMd [1124] u0 u10 (f v9 u10)) (fun v9 u10 => ?_) (fun k11 hk11 => ?_)
    ·
      refine md_ast ov6 (by decide) (by decide) (fun u12 => ?_)
      exact hk3 _ _
    ·
      refine md_if ?_ ?_
      ·
        refine md_gfA (by decide +kernel) (by decide) (fun v13 ov13 => ?_)
        refine md_ald (fun v14 => ?_)
        exact hk11 _ _
      ·
        exact hk11 _ _
theorem mX11_putsLast (x0 x1 : Int) (u0 : zMem) : zMd [1122, 1123, 1124, 1125, 1126] u0 u0 (fX11_putsLast x0 x1 u0) := by
  unfold fX11_putsLast
  refine md_gfA (by decide +kernel) (by decide) (fun v1 ov1 => ?_)
  refine md_ald (fun v2 => ?_)
  refine zlp_ind (fun (f : Int → Int → zMem → zRs) => ∀ (v3 : Int) (v4 : Int) (u5 : zMem), zMd [1122, 1123, 1124, 1125, 1126] u0 u5 (f v3 v4 u5)) (fun _ _ _ => md_none) (fun k6 hk6 v3 v4 u5 => ?_) _ _ _ _
  refine md_if ?_ ?_
  ·
    exact md_ret
  ·
    refine md_gfA (by decide +kernel) (by decide) (fun v7 ov7 => ?_)
    refine md_ald (fun v8 => ?_)
    refine md_jn (P := fun (f : Int → zMem → zRs) => ∀ (v9 : Int) (u10 : zMem), zMd [1122, 1123, 1124, 1125, 1126] u0 u10 (f v9 u10)) (fun v9 u10 => ?_) (fun k11 hk11 => ?_)
    ·
      exact hk6 _ _ _
    ·
      refine md_if ?_ ?_
      ·
        exact hk11 _ _
      ·
        refine md_gfA (by decide +kernel) (by decide) (fun v12 ov12 => ?_)
        refine md_ald (fun v13 => ?_)
        refine md_gfA (by decide +kernel) (by decide) (fun v14 ov14 => ?_)
        refine md_ald (fun v15 => ?_)
        refine md_gfA (by decide +kernel) (by decide) (fun v16 ov16 => ?_)
        refine md_ald (fun v17 => ?_)
        refine md_vc (mX11_fallsAway x0 x1 v3 u5) (by decide) (fun _ u18 => ?_)
        refine md_gfA (by decide +kernel) (by decide) (fun v19 ov19 => ?_)
        refine md_ald (fun v20 => ?_)
        refine md_vc (mX11_puts x0 x1 v20 v13 3 v15 v17 u18) (by decide) (fun _ u21 => ?_)
        refine md_gfA (by decide +kernel) (by decide) (fun v22 ov22 => ?_)
        refine md_ald (fun v23 => ?_)
        refine md_ast ov22 (by decide) (by decide) (fun u24 => ?_)
        exact hk11 _ _
theorem mX11_take (x0 x1 x2 : Int) (u0 : zMem) : zMd [1114, 1115, 1116, 1117, 1118, 1119, 1120, 1121, 1122, 1123, 1124, 1125, 1126] u0 u0 (fX11_take x0 x1 x2 u0) := by
  unfold fX11_take
  refine md_vc (mX11_isWriter x0 x1 u0) (by decide) (fun v1 u2 => ?_)
  refine md_if ?_ ?_
  ·
    refine md_gf (fun v3 => ?_)
    refine md_if ?_ ?_
    ·
      refine md_gf (fun v4 => ?_)
      refine md_gf (fun v5 => ?_)
      refine md_pf (by decide) (by decide) (by decide) (fun u6 => ?_)
      refine md_gfA (by decide +kernel) (by decide) (fun v7 ov7 => ?_)
      refine md_ast ov7 (by decide) (by decide) (fun u8 => ?_)
      refine md_gfA (by decide +kernel) (by decide) (fun v9 ov9 => ?_)
      refine md_ast ov9 (by decide) (by decide) (fun u10 => ?_)
      refine zlp_ind (fun (f : Int → Int → zMem → zRs) => ∀ (v11 : Int) (v12 : Int) (u13 : zMem), zMd [1114, 1115, 1116, 1117, 1118, 1119, 1120, 1121, 1122, 1123, 1124, 1125, 1126] u0 u13 (f v11 v12 u13)) (fun _ _ _ => md_none) (fun k14 hk14 v11 v12 u13 => ?_) _ _ _ _
      refine md_gf (fun v15 => ?_)
      refine md_if ?_ ?_
      ·
        refine md_gfA (by decide +kernel) (by decide) (fun v16 ov16 => ?_)
        refine md_ald (fun v17 => ?_)
        refine md_jn (P := fun (f : zMem → zRs) => ∀ (u18 : zMem), zMd [1114, 1115, 1116, 1117, 1118, 1119, 1120, 1121, 1122, 1123, 1124, 1125, 1126] u0 u18 (f u18)) (fun u18 => ?_) (fun k19 hk19 => ?_)
        ·
          refine md_gfA (by decide +kernel) (by decide) (fun v20 ov20 => ?_)
          refine md_ald (fun v21 => ?_)
          refine md_jn (P := fun (f : zMem → zRs) => ∀ (u22 : zMem), zMd [1114, 1115, 1116, 1117, 1118, 1119, 1120, 1121, 1122, 1123, 1124, 1125, 1126] u0 u22 (f u22)) (fun u22 => ?_) (fun k23 hk23 => ?_)
          ·
            refine md_gfA (by decide +kernel) (by decide) (fun v24 ov24 => ?_)
            refine md_ald (fun v25 => ?_)
            refine md_if ?_ ?_
            ·
              exact md_ret
            ·
              refine md_vc (mX11_putsLast x0 v4 u22) (by decide) (fun _ u26 => ?_)
              exact md_ret
          ·
            refine md_if ?_ ?_
            ·
              exact hk23 _
            ·
              refine md_vc (mX11_softensAll x0 v4 u18) (by decide) (fun _ u27 => ?_)
              exact hk23 _
        ·
          refine md_if ?_ ?_
          ·
            exact hk19 _
          ·
            refine md_vc (mX11_joinsAll x0 v4 u13) (by decide) (fun _ u28 => ?_)
            exact hk19 _
      ·
        refine md_nz ?_
        refine md_vc (mX11_heedOf x0 x1 v12 u13) (by decide) (fun v29 u30 => ?_)
        refine md_jn (P := fun (f : zMem → zRs) => ∀ (u31 : zMem), zMd [1114, 1115, 1116, 1117, 1118, 1119, 1120, 1121, 1122, 1123, 1124, 1125, 1126] u0 u31 (f u31)) (fun u31 => ?_) (fun k32 hk32 => ?_)
        ·
          exact hk14 _ _ _
        ·
          refine md_if ?_ ?_
          ·
            exact hk32 _
          ·
            refine md_gfA (by decide +kernel) (by decide) (fun v33 ov33 => ?_)
            refine md_ald (fun v34 => ?_)
            refine md_gfA (by decide +kernel) (by decide) (fun v35 ov35 => ?_)
            refine md_ald (fun v36 => ?_)
            refine md_jn (P := fun (f : Int → zMem → zRs) => ∀ (v37 : Int) (u38 : zMem), zMd [1114, 1115, 1116, 1117, 1118, 1119, 1120, 1121, 1122, 1123, 1124, 1125, 1126] u0 u38 (f v37 u38)) (fun v37 u38 => ?_) (fun k39 hk39 => ?_)
            ·
              refine md_gfA (by decide +kernel) (by decide) (fun v40 ov40 => ?_)
              refine md_ald (fun v41 => ?_)
              refine md_gfA (by decide +kernel) (by decide) (fun v42 ov42 => ?_)
              refine md_ald (fun v43 => ?_)
              refine md_vc (mX11_puts x0 v4 v41 v12 v43 v37 0 u38) (by decide) (fun _ u44 => ?_)
              refine md_gfA (by decide +kernel) (by decide) (fun v45 ov45 => ?_)
              refine md_ald (fun v46 => ?_)
              refine md_ast ov45 (by decide) (by decide) (fun u47 => ?_)
              exact hk32 _
            ·
              refine md_if ?_ ?_
              ·
                refine md_gfA (by decide +kernel) (by decide) (fun v48 ov48 => ?_)
                refine md_ald (fun v49 => ?_)
                exact hk39 _ _
              ·
                refine md_gfA (by decide +kernel) (by decide) (fun v50 ov50 => ?_)
                refine md_ald (fun v51 => ?_)
                exact hk39 _ _
    ·
      exact md_ret
  ·
    exact md_ret
theorem mX11_told (x0 x1 x2 : Int) (u0 : zMem) : zMd [1120, 1121, 1122, 1123, 1124, 1125, 1126] u0 u0 (fX11_told x0 x1 x2 u0) := by
  unfold fX11_told
  refine md_jn (P := fun (f : zMem → zRs) => ∀ (u1 : zMem), zMd [1120, 1121, 1122, 1123, 1124, 1125, 1126] u0 u1 (f u1)) (fun u1 => ?_) (fun k2 hk2 => ?_)
  ·
    refine md_if ?_ ?_
    ·
      exact md_ret
    ·
      refine md_gf (fun v3 => ?_)
      refine md_if ?_ ?_
      ·
        refine md_gf (fun v4 => ?_)
        refine md_if ?_ ?_
        ·
          refine md_gf (fun v5 => ?_)
          refine md_gf (fun v6 => ?_)
          refine md_pf (by decide) (by decide) (by decide) (fun u7 => ?_)
          refine md_gfA (by decide +kernel) (by decide) (fun v8 ov8 => ?_)
          refine md_ast ov8 (by decide) (by decide) (fun u9 => ?_)
          refine md_gfA (by decide +kernel) (by decide) (fun v10 ov10 => ?_)
          refine md_ast ov10 (by decide) (by decide) (fun u11 => ?_)
          refine zlp_ind (fun (f : Int → zMem → zRs) => ∀ (v12 : Int) (u13 : zMem), zMd [1120, 1121, 1122, 1123, 1124, 1125, 1126] u0 u13 (f v12 u13)) (fun _ _ => md_none) (fun k14 hk14 v12 u13 => ?_) _ _ _
          refine md_gf (fun v15 => ?_)
          refine md_if ?_ ?_
          ·
            exact md_ret
          ·
            refine md_jn (P := fun (f : zMem → zRs) => ∀ (u16 : zMem), zMd [1120, 1121, 1122, 1123, 1124, 1125, 1126] u0 u16 (f u16)) (fun u16 => ?_) (fun k17 hk17 => ?_)
            ·
              exact hk14 _ _
            ·
              refine md_if ?_ ?_
              ·
                exact hk17 _
              ·
                refine md_gfA (by decide +kernel) (by decide) (fun v18 ov18 => ?_)
                refine md_ald (fun v19 => ?_)
                refine md_gfA (by decide +kernel) (by decide) (fun v20 ov20 => ?_)
                refine md_ald (fun v21 => ?_)
                refine md_gfA (by decide +kernel) (by decide) (fun v22 ov22 => ?_)
                refine md_ald (fun v23 => ?_)
                refine md_vc (mX11_puts x0 v5 v19 v12 v21 v23 0 u13) (by decide) (fun _ u24 => ?_)
                refine md_gfA (by decide +kernel) (by decide) (fun v25 ov25 => ?_)
                refine md_ald (fun v26 => ?_)
                refine md_ast ov25 (by decide) (by decide) (fun u27 => ?_)
                exact hk17 _
        ·
          exact md_ret
      ·
        exact md_ret
  ·
    refine md_if ?_ ?_
    ·
      exact hk2 _
    ·
      refine md_vc (mX11_isWriter x0 x1 u0) (by decide) (fun v28 u29 => ?_)
      refine md_if ?_ ?_
      ·
        exact md_ret
      ·
        exact hk2 _
theorem mX11_placeOf (x0 x1 x2 : Int) (u0 : zMem) : zMd [] u0 u0 (fX11_placeOf x0 x1 x2 u0) := by
  unfold fX11_placeOf
  refine zlp_ind (fun (f : Int → zMem → zRs) => ∀ (v1 : Int) (u2 : zMem), zMd [] u0 u2 (f v1 u2)) (fun _ _ => md_none) (fun k3 hk3 v1 u2 => ?_) _ _ _
  refine md_gfA (by decide +kernel) (by decide) (fun v4 ov4 => ?_)
  refine md_ald (fun v5 => ?_)
  refine md_if ?_ ?_
  ·
    exact md_ret
  ·
    refine md_gfA (by decide +kernel) (by decide) (fun v6 ov6 => ?_)
    refine md_ald (fun v7 => ?_)
    refine md_if ?_ ?_
    ·
      exact hk3 _ _
    ·
      exact md_ret
theorem mX11_has (x0 x1 x2 : Int) (u0 : zMem) : zMd [] u0 u0 (fX11_has x0 x1 x2 u0) := by
  unfold fX11_has
  refine md_vc (mX11_placeOf x0 x1 x2 u0) (by decide) (fun v1 u2 => ?_)
  refine md_if ?_ ?_
  ·
    exact md_bl md_ret
  ·
    exact md_bl md_ret
theorem mX11_add (x0 x1 x2 x3 : Int) (u0 : zMem) : zMd [1122, 1123, 1124, 1125, 1126] u0 u0 (fX11_add x0 x1 x2 x3 u0) := by
  unfold fX11_add
  refine md_vc (mX11_isPaper x0 x1 u0) (by decide) (fun v1 u2 => ?_)
  refine md_if ?_ ?_
  ·
    exact md_ret
  ·
    refine md_vc (mX11_isSaying x0 x2 u2) (by decide) (fun v3 u4 => ?_)
    refine md_if ?_ ?_
    ·
      exact md_ret
    ·
      refine md_gfA (by decide +kernel) (by decide) (fun v5 ov5 => ?_)
      refine md_ald (fun v6 => ?_)
      refine md_call (mX11_within x3 0 v6 u4) (by decide) (fun v7 u8 => ?_)
      refine md_if ?_ ?_
      ·
        exact md_ret
      ·
        refine md_vc (mX11_has x0 x1 x2 u8) (by decide) (fun v9 u10 => ?_)
        refine md_if ?_ ?_
        ·
          refine md_gfA (by decide +kernel) (by decide) (fun v11 ov11 => ?_)
          refine md_ald (fun v12 => ?_)
          refine md_if ?_ ?_
          ·
            refine md_gfA (by decide +kernel) (by decide) (fun v13 ov13 => ?_)
            refine md_ald (fun v14 => ?_)
            refine zlp_ind (fun (f : Int → zMem → zRs) => ∀ (v15 : Int) (u16 : zMem), zMd [1122, 1123, 1124, 1125, 1126] u0 u16 (f v15 u16)) (fun _ _ => md_none) (fun k17 hk17 v15 u16 => ?_) _ _ _
            refine md_if ?_ ?_
            ·
              refine md_gfA (by decide +kernel) (by decide) (fun v18 ov18 => ?_)
              refine md_ald (fun v19 => ?_)
              refine md_gfA (by decide +kernel) (by decide) (fun v20 ov20 => ?_)
              refine md_ald (fun v21 => ?_)
              refine md_vc (mX11_puts x0 x1 x3 x2 v19 v21 1 u16) (by decide) (fun _ u22 => ?_)
              refine md_gfA (by decide +kernel) (by decide) (fun v23 ov23 => ?_)
              refine md_ald (fun v24 => ?_)
              refine md_ast ov23 (by decide) (by decide) (fun u25 => ?_)
              refine md_gfA (by decide +kernel) (by decide) (fun v26 ov26 => ?_)
              refine md_ald (fun v27 => ?_)
              exact md_ret
            ·
              refine md_vc (mX11_moves x0 x1 v15 (zw32 (v15 - 1)) u16) (by decide) (fun _ u28 => ?_)
              exact hk17 _ _
          ·
            exact md_ret
        ·
          exact md_ret
theorem mX11_strike (x0 x1 x2 : Int) (u0 : zMem) : zMd [1122, 1123, 1124, 1125, 1126] u0 u0 (fX11_strike x0 x1 x2 u0) := by
  unfold fX11_strike
  refine md_vc (mX11_isPaper x0 x1 u0) (by decide) (fun v1 u2 => ?_)
  refine md_if ?_ ?_
  ·
    exact md_ret
  ·
    refine md_gfA (by decide +kernel) (by decide) (fun v3 ov3 => ?_)
    refine md_ald (fun v4 => ?_)
    refine md_call (mX11_within x2 0 (zw32 (v4 - 1)) u2) (by decide) (fun v5 u6 => ?_)
    refine md_if ?_ ?_
    ·
      refine md_vc (mX11_fallsAway x0 x1 x2 u6) (by decide) (fun _ u7 => ?_)
      refine md_gfA (by decide +kernel) (by decide) (fun v8 ov8 => ?_)
      refine md_ald (fun v9 => ?_)
      exact md_ret
    ·
      exact md_ret
theorem mX11_read (x0 x1 x2 : Int) (u0 : zMem) : zMd [1122, 1123, 1124, 1125, 1126] u0 u0 (fX11_read x0 x1 x2 u0) := by
  unfold fX11_read
  refine md_vc (mX11_isPaper x0 x1 u0) (by decide) (fun v1 u2 => ?_)
  refine md_if ?_ ?_
  ·
    exact md_ret
  ·
    refine md_call (mX11_within x2 0 10 u2) (by decide) (fun v3 u4 => ?_)
    refine md_if ?_ ?_
    ·
      refine zlp_ind (fun (f : Int → Int → zMem → zRs) => ∀ (v5 : Int) (v6 : Int) (u7 : zMem), zMd [1122, 1123, 1124, 1125, 1126] u0 u7 (f v5 v6 u7)) (fun _ _ _ => md_none) (fun k8 hk8 v5 v6 u7 => ?_) _ _ _ _
      refine md_gfA (by decide +kernel) (by decide) (fun v9 ov9 => ?_)
      refine md_ald (fun v10 => ?_)
      refine md_if ?_ ?_
      ·
        exact md_ret
      ·
        refine md_gfA (by decide +kernel) (by decide) (fun v11 ov11 => ?_)
        refine md_gfA (by decide +kernel) (by decide) (fun v12 ov12 => ?_)
        refine md_ald (fun v13 => ?_)
        refine md_ald (fun v14 => ?_)
        refine md_jn (P := fun (f : Int → zMem → zRs) => ∀ (v15 : Int) (u16 : zMem), zMd [1122, 1123, 1124, 1125, 1126] u0 u16 (f v15 u16)) (fun v15 u16 => ?_) (fun k17 hk17 => ?_)
        ·
          refine md_jn (P := fun (f : Int → Int → zMem → zRs) => ∀ (v18 : Int) (v19 : Int) (u20 : zMem), zMd [1122, 1123, 1124, 1125, 1126] u0 u20 (f v18 v19 u20)) (fun v18 v19 u20 => ?_) (fun k21 hk21 => ?_)
          ·
            exact hk8 _ _ _
          ·
            refine md_jn (P := fun (f : zMem → zRs) => ∀ (u22 : zMem), zMd [1122, 1123, 1124, 1125, 1126] u0 u22 (f u22)) (fun u22 => ?_) (fun k23 hk23 => ?_)
            ·
              refine md_gfA (by decide +kernel) (by decide) (fun v24 ov24 => ?_)
              refine md_jn (P := fun (f : Int → zMem → zRs) => ∀ (v25 : Int) (u26 : zMem), zMd [1122, 1123, 1124, 1125, 1126] u0 u26 (f v25 u26)) (fun v25 u26 => ?_) (fun k27 hk27 => ?_)
              ·
                refine md_ast ov24 (by decide) (by decide) (fun u28 => ?_)
                refine md_gfA (by decide +kernel) (by decide) (fun v29 ov29 => ?_)
                refine md_gfA (by decide +kernel) (by decide) (fun v30 ov30 => ?_)
                refine md_ald (fun v31 => ?_)
                refine md_jn (P := fun (f : Int → zMem → zRs) => ∀ (v32 : Int) (u33 : zMem), zMd [1122, 1123, 1124, 1125, 1126] u0 u33 (f v32 u33)) (fun v32 u33 => ?_) (fun k34 hk34 => ?_)
                ·
                  refine md_ast ov29 (by decide) (by decide) (fun u35 => ?_)
                  exact hk21 _ _ _
                ·
                  refine md_if ?_ ?_
                  ·
                    refine md_gfA (by decide +kernel) (by decide) (fun v36 ov36 => ?_)
                    refine md_ald (fun v37 => ?_)
                    exact hk34 _ _
                  ·
                    exact hk34 _ _
              ·
                refine md_if ?_ ?_
                ·
                  refine md_gfA (by decide +kernel) (by decide) (fun v38 ov38 => ?_)
                  refine md_ald (fun v39 => ?_)
                  exact hk27 _ _
                ·
                  refine md_gfA (by decide +kernel) (by decide) (fun v40 ov40 => ?_)
                  refine md_ald (fun v41 => ?_)
                  exact hk27 _ _
            ·
              refine md_if ?_ ?_
              ·
                exact hk23 _
              ·
                refine md_gfA (by decide +kernel) (by decide) (fun v42 ov42 => ?_)
                refine md_ald (fun v43 => ?_)
                refine md_if ?_ ?_
                ·
                  exact hk23 _
                ·
                  refine md_vc (mX11_fallsAway x0 x1 v6 u16) (by decide) (fun _ u44 => ?_)
                  exact hk21 _ _ _
        ·
          refine md_if ?_ ?_
          ·
            exact hk17 _ _
          ·
            exact hk17 _ _
    ·
      exact md_ret
theorem mX11_cut (x0 x1 x2 : Int) (u0 : zMem) : zMd [1122, 1123, 1124, 1125, 1126] u0 u0 (fX11_cut x0 x1 x2 u0) := by
  unfold fX11_cut
  refine md_vc (mX11_isPaper x0 x1 u0) (by decide) (fun v1 u2 => ?_)
  refine md_if ?_ ?_
  ·
    exact md_ret
  ·
    refine md_call (mX11_within x2 0 16 u2) (by decide) (fun v3 u4 => ?_)
    refine md_if ?_ ?_
    ·
      refine zlp_ind (fun (f : Int → zMem → zRs) => ∀ (v5 : Int) (u6 : zMem), zMd [1122, 1123, 1124, 1125, 1126] u0 u6 (f v5 u6)) (fun _ _ => md_none) (fun k7 hk7 v5 u6 => ?_) _ _ _
      refine md_gfA (by decide +kernel) (by decide) (fun v8 ov8 => ?_)
      refine md_ald (fun v9 => ?_)
      refine md_if ?_ ?_
      ·
        exact md_ret
      ·
        refine zlp_ind (fun (f : Int → Int → zMem → zRs) => ∀ (v10 : Int) (v11 : Int) (u12 : zMem), zMd [1122, 1123, 1124, 1125, 1126] u0 u12 (f v10 v11 u12)) (fun _ _ _ => md_none) (fun k13 hk13 v10 v11 u12 => ?_) _ _ _ _
        refine md_gfA (by decide +kernel) (by decide) (fun v14 ov14 => ?_)
        refine md_ald (fun v15 => ?_)
        refine md_if ?_ ?_
        ·
          refine md_vc (mX11_fallsAway x0 x1 v10 u12) (by decide) (fun _ u16 => ?_)
          exact hk7 _ _
        ·
          refine md_gfA (by decide +kernel) (by decide) (fun v17 ov17 => ?_)
          refine md_ald (fun v18 => ?_)
          refine md_gfA (by decide +kernel) (by decide) (fun v19 ov19 => ?_)
          refine md_ald (fun v20 => ?_)
          refine md_jn (P := fun (f : Int → zMem → zRs) => ∀ (v21 : Int) (u22 : zMem), zMd [1122, 1123, 1124, 1125, 1126] u0 u22 (f v21 u22)) (fun v21 u22 => ?_) (fun k23 hk23 => ?_)
          ·
            exact hk13 _ _ _
          ·
            refine md_if ?_ ?_
            ·
              exact hk23 _ _
            ·
              exact hk23 _ _
    ·
      exact md_ret
theorem mX11_bitsOf (x0 x1 : Int) (u0 : zMem) : zMd [] u0 u0 (fX11_bitsOf x0 x1 u0) := by
  unfold fX11_bitsOf
  refine zlp_ind (fun (f : Int → Int → zMem → zRs) => ∀ (v1 : Int) (v2 : Int) (u3 : zMem), zMd [] u0 u3 (f v1 v2 u3)) (fun _ _ _ => md_none) (fun k4 hk4 v1 v2 u3 => ?_) _ _ _ _
  refine md_gfA (by decide +kernel) (by decide) (fun v5 ov5 => ?_)
  refine md_ald (fun v6 => ?_)
  refine md_if ?_ ?_
  ·
    exact md_ret
  ·
    refine md_gfA (by decide +kernel) (by decide) (fun v7 ov7 => ?_)
    refine md_ald (fun v8 => ?_)
    exact hk4 _ _ _
theorem mX11_allLong (x0 x1 : Int) (u0 : zMem) : zMd [] u0 u0 (fX11_allLong x0 x1 u0) := by
  unfold fX11_allLong
  refine zlp_ind (fun (f : Int → Int → zMem → zRs) => ∀ (v1 : Int) (v2 : Int) (u3 : zMem), zMd [] u0 u3 (f v1 v2 u3)) (fun _ _ _ => md_none) (fun k4 hk4 v1 v2 u3 => ?_) _ _ _ _
  refine md_gfA (by decide +kernel) (by decide) (fun v5 ov5 => ?_)
  refine md_ald (fun v6 => ?_)
  refine md_if ?_ ?_
  ·
    exact md_ret
  ·
    refine md_gfA (by decide +kernel) (by decide) (fun v7 ov7 => ?_)
    refine md_ald (fun v8 => ?_)
    exact hk4 _ _ _
theorem mX11_page (x0 x1 x2 : Int) (u0 : zMem) : zMd [] u0 u0 (fX11_page x0 x1 x2 u0) := by
  unfold fX11_page
  refine md_vc (mX11_isPaper x0 x1 u0) (by decide) (fun v1 u2 => ?_)
  refine md_if ?_ ?_
  ·
    exact md_ret
  ·
    refine md_if ?_ ?_
    ·
      refine md_if ?_ ?_
      ·
        refine md_nz ?_
        refine md_gfA (by decide +kernel) (by decide) (fun v3 ov3 => ?_)
        refine md_ald (fun v4 => ?_)
        refine md_if ?_ ?_
        ·
          exact md_ret
        ·
          refine md_nz ?_
          refine md_if ?_ ?_
          ·
            refine md_nz ?_
            refine md_if ?_ ?_
            ·
              refine md_nz ?_
              refine md_if ?_ ?_
              ·
                refine md_nz ?_
                refine md_if ?_ ?_
                ·
                  refine md_gfA (by decide +kernel) (by decide) (fun v5 ov5 => ?_)
                  refine md_ald (fun v6 => ?_)
                  refine md_if ?_ ?_
                  ·
                    exact md_ret
                  ·
                    exact md_ret
                ·
                  refine md_gfA (by decide +kernel) (by decide) (fun v7 ov7 => ?_)
                  refine md_ald (fun v8 => ?_)
                  exact md_ret
              ·
                refine md_gfA (by decide +kernel) (by decide) (fun v9 ov9 => ?_)
                refine md_ald (fun v10 => ?_)
                exact md_ret
            ·
              refine md_gfA (by decide +kernel) (by decide) (fun v11 ov11 => ?_)
              refine md_ald (fun v12 => ?_)
              exact md_ret
          ·
            exact md_ret
      ·
        refine md_if ?_ ?_
        ·
          refine md_if ?_ ?_
          ·
            refine md_if ?_ ?_
            ·
              refine md_if ?_ ?_
              ·
                exact md_ret
              ·
                refine md_vc (mX11_allLong x0 x1 u2) (by decide) (fun v13 u14 => ?_)
                exact md_ret
            ·
              refine md_vc (mX11_bitsOf x0 x1 u2) (by decide) (fun v15 u16 => ?_)
              exact md_ret
          ·
            refine md_gfA (by decide +kernel) (by decide) (fun v17 ov17 => ?_)
            refine md_ald (fun v18 => ?_)
            exact md_ret
        ·
          refine md_gfA (by decide +kernel) (by decide) (fun v19 ov19 => ?_)
          refine md_ald (fun v20 => ?_)
          exact md_ret
    ·
      exact md_ret
theorem mX11_led (x0 x1 x2 : Int) (u0 : zMem) : zMd [] u0 u0 (fX11_led x0 x1 x2 u0) := by
  unfold fX11_led
  refine md_vc (mX11_isPaper x0 x1 u0) (by decide) (fun v1 u2 => ?_)
  refine md_if ?_ ?_
  ·
    exact md_ret
  ·
    refine md_vc (mX11_isSaying x0 x2 u2) (by decide) (fun v3 u4 => ?_)
    refine md_if ?_ ?_
    ·
      refine md_vc (mX11_has x0 x1 x2 u4) (by decide) (fun v5 u6 => ?_)
      refine md_if ?_ ?_
      ·
        exact md_ret
      ·
        refine md_vc (mX11_placeOf x0 x1 x2 u6) (by decide) (fun v7 u8 => ?_)
        exact md_ret
    ·
      exact md_ret
theorem mX11_hadBy (x0 x1 : Int) (u0 : zMem) : zMd [] u0 u0 (fX11_hadBy x0 x1 u0) := by
  unfold fX11_hadBy
  refine zlp_ind (fun (f : Int → Int → zMem → zRs) => ∀ (v1 : Int) (v2 : Int) (u3 : zMem), zMd [] u0 u3 (f v1 v2 u3)) (fun _ _ _ => md_none) (fun k4 hk4 v1 v2 u3 => ?_) _ _ _ _
  refine md_gf (fun v5 => ?_)
  refine md_if ?_ ?_
  ·
    exact md_ret
  ·
    refine md_vc (mX11_has x0 v2 x1 u3) (by decide) (fun v6 u7 => ?_)
    refine md_jn (P := fun (f : Int → zMem → zRs) => ∀ (v8 : Int) (u9 : zMem), zMd [] u0 u9 (f v8 u9)) (fun v8 u9 => ?_) (fun k10 hk10 => ?_)
    ·
      exact hk4 _ _ _
    ·
      refine md_if ?_ ?_
      ·
        exact hk10 _ _
      ·
        exact hk10 _ _
theorem mX11_sure (x0 x1 x2 : Int) (u0 : zMem) : zMd [] u0 u0 (fX11_sure x0 x1 x2 u0) := by
  unfold fX11_sure
  refine md_vc (mX11_isSaying x0 x1 u0) (by decide) (fun v1 u2 => ?_)
  refine md_if ?_ ?_
  ·
    exact md_ret
  ·
    refine md_call (mX11_within x2 0 1 u2) (by decide) (fun v3 u4 => ?_)
    refine md_if ?_ ?_
    ·
      refine zlp_ind (fun (f : Int → Int → zMem → zRs) => ∀ (v5 : Int) (v6 : Int) (u7 : zMem), zMd [] u0 u7 (f v5 v6 u7)) (fun _ _ _ => md_none) (fun k8 hk8 v5 v6 u7 => ?_) _ _ _ _
      refine md_gf (fun v9 => ?_)
      refine md_if ?_ ?_
      ·
        refine zlp_ind (fun (f : Int → Int → zMem → zRs) => ∀ (v10 : Int) (v11 : Int) (u12 : zMem), zMd [] u0 u12 (f v10 v11 u12)) (fun _ _ _ => md_none) (fun k13 hk13 v10 v11 u12 => ?_) _ _ _ _
        refine md_gf (fun v14 => ?_)
        refine md_if ?_ ?_
        ·
          refine md_if ?_ ?_
          ·
            exact md_ret
          ·
            refine md_vc (mX11_hadBy x0 x1 u12) (by decide) (fun v15 u16 => ?_)
            exact md_ret
        ·
          exact hk13 _ _ _
      ·
        refine md_gfA (by decide +kernel) (by decide) (fun v17 ov17 => ?_)
        refine md_ald (fun v18 => ?_)
        refine md_jn (P := fun (f : Int → zMem → zRs) => ∀ (v19 : Int) (u20 : zMem), zMd [] u0 u20 (f v19 u20)) (fun v19 u20 => ?_) (fun k21 hk21 => ?_)
        ·
          exact hk8 _ _ _
        ·
          refine md_jn (P := fun (f : zMem → zRs) => ∀ (u22 : zMem), zMd [] u0 u22 (f u22)) (fun u22 => ?_) (fun k23 hk23 => ?_)
          ·
            exact hk21 _ _
          ·
            refine md_if ?_ ?_
            ·
              exact hk23 _
            ·
              refine md_vc (mX11_has x0 v6 x1 u7) (by decide) (fun v24 u25 => ?_)
              refine md_if ?_ ?_
              ·
                exact hk23 _
              ·
                refine md_gfA (by decide +kernel) (by decide) (fun v26 ov26 => ?_)
                refine md_ald (fun v27 => ?_)
                exact hk21 _ _
    ·
      exact md_ret
theorem mX11_only (x0 : Int) (u0 : zMem) : zMd [] u0 u0 (fX11_only x0 u0) := by
  unfold fX11_only
  refine zlp_ind (fun (f : Int → Int → zMem → zRs) => ∀ (v1 : Int) (v2 : Int) (u3 : zMem), zMd [] u0 u3 (f v1 v2 u3)) (fun _ _ _ => md_none) (fun k4 hk4 v1 v2 u3 => ?_) _ _ _ _
  refine md_gf (fun v5 => ?_)
  refine md_if ?_ ?_
  ·
    exact md_ret
  ·
    refine md_vc (mX11_hadBy x0 v2 u3) (by decide) (fun v6 u7 => ?_)
    refine md_jn (P := fun (f : Int → zMem → zRs) => ∀ (v8 : Int) (u9 : zMem), zMd [] u0 u9 (f v8 u9)) (fun v8 u9 => ?_) (fun k10 hk10 => ?_)
    ·
      exact hk4 _ _ _
    ·
      refine md_if ?_ ?_
      ·
        exact hk10 _ _
      ·
        exact hk10 _ _
theorem mX11_fight (x0 x1 x2 : Int) (u0 : zMem) : zMd [] u0 u0 (fX11_fight x0 x1 x2 u0) := by
  unfold fX11_fight
  refine md_if ?_ ?_
  ·
    exact md_ret
  ·
    refine md_nz ?_
    refine md_vc (mX11_isPaper x0 (zw32 (Int.tdiv x1 10)) u0) (by decide) (fun v1 u2 => ?_)
    refine md_if ?_ ?_
    ·
      exact md_ret
    ·
      refine md_nz ?_
      refine md_vc (mX11_isPaper x0 (Int.tmod x1 10) u2) (by decide) (fun v3 u4 => ?_)
      refine md_if ?_ ?_
      ·
        exact md_ret
      ·
        refine md_nz ?_
        refine md_nz ?_
        refine md_if ?_ ?_
        ·
          exact md_ret
        ·
          refine md_call (mX11_within x2 0 1 u4) (by decide) (fun v5 u6 => ?_)
          refine md_if ?_ ?_
          ·
            refine md_nz ?_
            refine md_nz ?_
            refine zlp_ind (fun (f : Int → Int → Int → zMem → zRs) => ∀ (v7 : Int) (v8 : Int) (v9 : Int) (u10 : zMem), zMd [] u0 u10 (f v7 v8 v9 u10)) (fun _ _ _ _ => md_none) (fun k11 hk11 v7 v8 v9 u10 => ?_) _ _ _ _ _
            refine md_gf (fun v12 => ?_)
            refine md_if ?_ ?_
            ·
              refine md_if ?_ ?_
              ·
                exact md_ret
              ·
                exact md_ret
            ·
              refine zlp_ind (fun (f : Int → Int → Int → zMem → zRs) => ∀ (v13 : Int) (v14 : Int) (v15 : Int) (u16 : zMem), zMd [] u0 u16 (f v13 v14 v15 u16)) (fun _ _ _ _ => md_none) (fun k17 hk17 v13 v14 v15 u16 => ?_) _ _ _ _ _
              refine md_gf (fun v18 => ?_)
              refine md_if ?_ ?_
              ·
                exact hk11 _ _ _ _
              ·
                refine md_vc (mX11_has x0 (zw32 (Int.tdiv x1 10)) v9 u16) (by decide) (fun v19 u20 => ?_)
                refine md_jn (P := fun (f : Int → zMem → zRs) => ∀ (v21 : Int) (u22 : zMem), zMd [] u0 u22 (f v21 u22)) (fun v21 u22 => ?_) (fun k23 hk23 => ?_)
                ·
                  refine md_jn (P := fun (f : Int → zMem → zRs) => ∀ (v24 : Int) (u25 : zMem), zMd [] u0 u25 (f v24 u25)) (fun v24 u25 => ?_) (fun k26 hk26 => ?_)
                  ·
                    refine md_jn (P := fun (f : Int → zMem → zRs) => ∀ (v27 : Int) (u28 : zMem), zMd [] u0 u28 (f v27 u28)) (fun v27 u28 => ?_) (fun k29 hk29 => ?_)
                    ·
                      refine md_jn (P := fun (f : Int → zMem → zRs) => ∀ (v30 : Int) (u31 : zMem), zMd [] u0 u31 (f v30 u31)) (fun v30 u31 => ?_) (fun k32 hk32 => ?_)
                      ·
                        exact hk17 _ _ _ _
                      ·
                        refine md_if ?_ ?_
                        ·
                          exact hk32 _ _
                        ·
                          exact hk32 _ _
                    ·
                      refine md_jn (P := fun (f : zMem → zRs) => ∀ (u33 : zMem), zMd [] u0 u33 (f u33)) (fun u33 => ?_) (fun k34 hk34 => ?_)
                      ·
                        exact hk29 _ _
                      ·
                        refine md_if ?_ ?_
                        ·
                          exact hk34 _
                        ·
                          refine md_if ?_ ?_
                          ·
                            exact hk34 _
                          ·
                            exact hk29 _ _
                  ·
                    refine md_jn (P := fun (f : zMem → zRs) => ∀ (u35 : zMem), zMd [] u0 u35 (f u35)) (fun u35 => ?_) (fun k36 hk36 => ?_)
                    ·
                      exact hk26 _ _
                    ·
                      refine md_if ?_ ?_
                      ·
                        exact hk36 _
                      ·
                        refine md_vc (mX11_placeOf x0 (zw32 (Int.tdiv x1 10)) v9 u22) (by decide) (fun v37 u38 => ?_)
                        refine md_vc (mX11_placeOf x0 (zw32 (Int.tdiv x1 10)) v15 u38) (by decide) (fun v39 u40 => ?_)
                        refine md_jn (P := fun (f : Int → zMem → zRs) => ∀ (v41 : Int) (u42 : zMem), zMd [] u0 u42 (f v41 u42)) (fun v41 u42 => ?_) (fun k43 hk43 => ?_)
                        ·
                          refine md_vc (mX11_placeOf x0 (Int.tmod x1 10) v9 u42) (by decide) (fun v44 u45 => ?_)
                          refine md_vc (mX11_placeOf x0 (Int.tmod x1 10) v15 u45) (by decide) (fun v46 u47 => ?_)
                          refine md_jn (P := fun (f : Int → zMem → zRs) => ∀ (v48 : Int) (u49 : zMem), zMd [] u0 u49 (f v48 u49)) (fun v48 u49 => ?_) (fun k50 hk50 => ?_)
                          ·
                            refine md_if ?_ ?_
                            ·
                              exact hk36 _
                            ·
                              exact hk26 _ _
                          ·
                            refine md_if ?_ ?_
                            ·
                              exact hk50 _ _
                            ·
                              exact hk50 _ _
                        ·
                          refine md_if ?_ ?_
                          ·
                            exact hk43 _ _
                          ·
                            exact hk43 _ _
                ·
                  refine md_jn (P := fun (f : zMem → zRs) => ∀ (u51 : zMem), zMd [] u0 u51 (f u51)) (fun u51 => ?_) (fun k52 hk52 => ?_)
                  ·
                    exact hk23 _ _
                  ·
                    refine md_if ?_ ?_
                    ·
                      exact hk52 _
                    ·
                      refine md_vc (mX11_has x0 (zw32 (Int.tdiv x1 10)) v15 u20) (by decide) (fun v53 u54 => ?_)
                      refine md_if ?_ ?_
                      ·
                        exact hk52 _
                      ·
                        refine md_vc (mX11_has x0 (Int.tmod x1 10) v9 u54) (by decide) (fun v55 u56 => ?_)
                        refine md_if ?_ ?_
                        ·
                          exact hk52 _
                        ·
                          refine md_vc (mX11_has x0 (Int.tmod x1 10) v15 u56) (by decide) (fun v57 u58 => ?_)
                          refine md_if ?_ ?_
                          ·
                            exact hk52 _
                          ·
                            exact hk23 _ _
          ·
            exact md_ret
theorem mX11_beats (x0 x1 x2 : Int) (u0 : zMem) : zMd [] u0 u0 (fX11_beats x0 x1 x2 u0) := by
  unfold fX11_beats
  refine zlp_ind (fun (f : Int → Int → zMem → zRs) => ∀ (v1 : Int) (v2 : Int) (u3 : zMem), zMd [] u0 u3 (f v1 v2 u3)) (fun _ _ _ => md_none) (fun k4 hk4 v1 v2 u3 => ?_) _ _ _ _
  refine md_gf (fun v5 => ?_)
  refine md_if ?_ ?_
  ·
    refine md_if ?_ ?_
    ·
      exact md_bl md_ret
    ·
      exact md_bl md_ret
  ·
    refine md_vc (mX11_has x0 v2 x1 u3) (by decide) (fun v6 u7 => ?_)
    refine md_jn (P := fun (f : Int → zMem → zRs) => ∀ (v8 : Int) (u9 : zMem), zMd [] u0 u9 (f v8 u9)) (fun v8 u9 => ?_) (fun k10 hk10 => ?_)
    ·
      exact hk4 _ _ _
    ·
      refine md_if ?_ ?_
      ·
        exact hk10 _ _
      ·
        refine md_vc (mX11_has x0 v2 x2 u7) (by decide) (fun v11 u12 => ?_)
        refine md_if ?_ ?_
        ·
          exact hk10 _ _
        ·
          refine md_vc (mX11_placeOf x0 v2 x1 u12) (by decide) (fun v13 u14 => ?_)
          refine md_vc (mX11_placeOf x0 v2 x2 u14) (by decide) (fun v15 u16 => ?_)
          refine md_jn (P := fun (f : Int → zMem → zRs) => ∀ (v17 : Int) (u18 : zMem), zMd [] u0 u18 (f v17 u18)) (fun v17 u18 => ?_) (fun k19 hk19 => ?_)
          ·
            exact hk10 _ _
          ·
            refine md_if ?_ ?_
            ·
              exact hk19 _ _
            ·
              exact hk19 _ _
theorem mX11_nextOf (x0 x1 : Int) (u0 : zMem) : zMd [] u0 u0 (fX11_nextOf x0 x1 u0) := by
  unfold fX11_nextOf
  refine zlp_ind (fun (f : Int → Int → Int → zMem → zRs) => ∀ (v1 : Int) (v2 : Int) (v3 : Int) (u4 : zMem), zMd [] u0 u4 (f v1 v2 v3 u4)) (fun _ _ _ _ => md_none) (fun k5 hk5 v1 v2 v3 u4 => ?_) _ _ _ _ _
  refine md_gf (fun v6 => ?_)
  refine md_if ?_ ?_
  ·
    exact md_ret
  ·
    refine md_jn (P := fun (f : Int → Int → zMem → zRs) => ∀ (v7 : Int) (v8 : Int) (u9 : zMem), zMd [] u0 u9 (f v7 v8 u9)) (fun v7 v8 u9 => ?_) (fun k10 hk10 => ?_)
    ·
      exact hk5 _ _ _ _
    ·
      refine md_if ?_ ?_
      ·
        refine zlp_ind (fun (f : Int → Int → zMem → zRs) => ∀ (v11 : Int) (v12 : Int) (u13 : zMem), zMd [] u0 u13 (f v11 v12 u13)) (fun _ _ _ => md_none) (fun k14 hk14 v11 v12 u13 => ?_) _ _ _ _
        refine md_gf (fun v15 => ?_)
        refine md_if ?_ ?_
        ·
          refine md_jn (P := fun (f : zMem → zRs) => ∀ (u16 : zMem), zMd [] u0 u16 (f u16)) (fun u16 => ?_) (fun k17 hk17 => ?_)
          ·
            exact hk10 _ _ _
          ·
            refine md_if ?_ ?_
            ·
              exact hk17 _
            ·
              refine md_if ?_ ?_
              ·
                exact hk10 _ _ _
              ·
                exact hk17 _
        ·
          refine md_jn (P := fun (f : Int → zMem → zRs) => ∀ (v18 : Int) (u19 : zMem), zMd [] u0 u19 (f v18 u19)) (fun v18 u19 => ?_) (fun k20 hk20 => ?_)
          ·
            exact hk14 _ _ _
          ·
            refine md_jn (P := fun (f : zMem → zRs) => ∀ (u21 : zMem), zMd [] u0 u21 (f u21)) (fun u21 => ?_) (fun k22 hk22 => ?_)
            ·
              exact hk20 _ _
            ·
              refine md_if ?_ ?_
              ·
                exact hk22 _
              ·
                refine md_if ?_ ?_
                ·
                  exact hk22 _
                ·
                  refine md_vc (mX11_beats x0 v3 v12 u13) (by decide) (fun v23 u24 => ?_)
                  refine md_if ?_ ?_
                  ·
                    exact hk22 _
                  ·
                    exact hk20 _ _
      ·
        exact hk10 _ _ _
theorem mX11_order (x0 x1 : Int) (u0 : zMem) : zMd [] u0 u0 (fX11_order x0 x1 u0) := by
  unfold fX11_order
  refine zlp_ind (fun (f : Int → Int → zMem → zRs) => ∀ (v1 : Int) (v2 : Int) (u3 : zMem), zMd [] u0 u3 (f v1 v2 u3)) (fun _ _ _ => md_none) (fun k4 hk4 v1 v2 u3 => ?_) _ _ _ _
  refine md_gf (fun v5 => ?_)
  refine md_if ?_ ?_
  ·
    refine md_if ?_ ?_
    ·
      refine zlp_ind (fun (f : Int → Int → zMem → zRs) => ∀ (v6 : Int) (v7 : Int) (u8 : zMem), zMd [] u0 u8 (f v6 v7 u8)) (fun _ _ _ => md_none) (fun k9 hk9 v6 v7 u8 => ?_) _ _ _ _
      refine md_if ?_ ?_
      ·
        exact md_ret
      ·
        refine md_if ?_ ?_
        ·
          exact md_ret
        ·
          refine md_vc (mX11_nextOf x0 v6 u8) (by decide) (fun v10 u11 => ?_)
          refine md_if ?_ ?_
          ·
            exact hk9 _ _ _
          ·
            exact md_ret
    ·
      exact md_ret
  ·
    refine md_vc (mX11_hadBy x0 v2 u3) (by decide) (fun v12 u13 => ?_)
    refine md_jn (P := fun (f : Int → zMem → zRs) => ∀ (v14 : Int) (u15 : zMem), zMd [] u0 u15 (f v14 u15)) (fun v14 u15 => ?_) (fun k16 hk16 => ?_)
    ·
      exact hk4 _ _ _
    ·
      refine md_if ?_ ?_
      ·
        exact hk16 _ _
      ·
        exact hk16 _ _
theorem mX11_common (x0 x1 : Int) (u0 : zMem) : zMd [] u0 u0 (fX11_common x0 x1 u0) := by
  unfold fX11_common
  refine zlp_ind (fun (f : Int → Int → zMem → zRs) => ∀ (v1 : Int) (v2 : Int) (u3 : zMem), zMd [] u0 u3 (f v1 v2 u3)) (fun _ _ _ => md_none) (fun k4 hk4 v1 v2 u3 => ?_) _ _ _ _
  refine md_if ?_ ?_
  ·
    exact md_ret
  ·
    refine md_nz ?_
    exact hk4 _ _ _
theorem mX11_said (x0 x1 x2 x3 : Int) (u0 : zMem) : zMd [1114, 1115, 1116, 1117, 1118, 1119] u0 u0 (fX11_said x0 x1 x2 x3 u0) := by
  unfold fX11_said
  refine md_vc (mX11_isSaying x0 x1 u0) (by decide) (fun v1 u2 => ?_)
  refine md_if ?_ ?_
  ·
    exact md_ret
  ·
    refine md_call (mX11_within x2 1 99 u2) (by decide) (fun v3 u4 => ?_)
    refine md_if ?_ ?_
    ·
      exact md_ret
    ·
      refine md_call (mX11_within x3 0 1 u4) (by decide) (fun v5 u6 => ?_)
      refine md_if ?_ ?_
      ·
        refine zlp_ind (fun (f : Int → Int → Int → Int → zMem → zRs) => ∀ (v7 : Int) (v8 : Int) (v9 : Int) (v10 : Int) (u11 : zMem), zMd [1114, 1115, 1116, 1117, 1118, 1119] u0 u11 (f v7 v8 v9 v10 u11)) (fun _ _ _ _ _ => md_none) (fun k12 hk12 v7 v8 v9 v10 u11 => ?_) _ _ _ _ _ _
        refine md_gf (fun v13 => ?_)
        refine md_jn (P := fun (f : zMem → zRs) => ∀ (u14 : zMem), zMd [1114, 1115, 1116, 1117, 1118, 1119] u0 u14 (f u14)) (fun u14 => ?_) (fun k15 hk15 => ?_)
        ·
          refine md_if ?_ ?_
          ·
            refine md_call (mX11_common v7 (zw64 (v7 + v8)) u14) (by decide) (fun v16 u17 => ?_)
            refine md_if ?_ ?_
            ·
              refine md_nz ?_
              exact md_ret
            ·
              refine md_nz ?_
              exact md_ret
          ·
            exact md_ret
        ·
          refine md_if ?_ ?_
          ·
            exact hk15 _
          ·
            refine md_if ?_ ?_
            ·
              exact hk15 _
            ·
              refine md_gfA (by decide +kernel) (by decide) (fun v18 ov18 => ?_)
              refine md_ald (fun v19 => ?_)
              refine md_jn (P := fun (f : Int → Int → Int → zMem → zRs) => ∀ (v20 : Int) (v21 : Int) (v22 : Int) (u23 : zMem), zMd [1114, 1115, 1116, 1117, 1118, 1119] u0 u23 (f v20 v21 v22 u23)) (fun v20 v21 v22 u23 => ?_) (fun k24 hk24 => ?_)
              ·
                exact hk12 _ _ _ _ _
              ·
                refine md_if ?_ ?_
                ·
                  exact hk24 _ _ _ _
                ·
                  refine md_gfA (by decide +kernel) (by decide) (fun v25 ov25 => ?_)
                  refine md_ald (fun v26 => ?_)
                  refine md_vc (mX11_heedOf x0 v26 x1 u11) (by decide) (fun v27 u28 => ?_)
                  refine md_vc (mX11_has x0 v10 x1 u28) (by decide) (fun v29 u30 => ?_)
                  refine md_jn (P := fun (f : Int → zMem → zRs) => ∀ (v31 : Int) (u32 : zMem), zMd [1114, 1115, 1116, 1117, 1118, 1119] u0 u32 (f v31 u32)) (fun v31 u32 => ?_) (fun k33 hk33 => ?_)
                  ·
                    refine md_vc (mX11_has x0 v10 x1 u32) (by decide) (fun v34 u35 => ?_)
                    refine md_jn (P := fun (f : Int → zMem → zRs) => ∀ (v36 : Int) (u37 : zMem), zMd [1114, 1115, 1116, 1117, 1118, 1119] u0 u37 (f v36 u37)) (fun v36 u37 => ?_) (fun k38 hk38 => ?_)
                    ·
                      exact hk24 _ _ _ _
                    ·
                      refine md_if ?_ ?_
                      ·
                        exact hk38 _ _
                      ·
                        exact hk38 _ _
                  ·
                    refine md_if ?_ ?_
                    ·
                      exact hk33 _ _
                    ·
                      exact hk33 _ _
      ·
        exact md_ret
theorem mX11_likeOf (x0 x1 x2 : Int) (u0 : zMem) : zMd [1114, 1115, 1116, 1117, 1118, 1119] u0 u0 (fX11_likeOf x0 x1 x2 u0) := by
  unfold fX11_likeOf
  refine zlp_ind (fun (f : Int → Int → zMem → zRs) => ∀ (v1 : Int) (v2 : Int) (u3 : zMem), zMd [1114, 1115, 1116, 1117, 1118, 1119] u0 u3 (f v1 v2 u3)) (fun _ _ _ => md_none) (fun k4 hk4 v1 v2 u3 => ?_) _ _ _ _
  refine md_gf (fun v5 => ?_)
  refine md_if ?_ ?_
  ·
    exact md_ret
  ·
    refine md_vc (mX11_heedOf x0 x1 v2 u3) (by decide) (fun v6 u7 => ?_)
    refine md_vc (mX11_has x0 x2 v2 u7) (by decide) (fun v8 u9 => ?_)
    refine md_jn (P := fun (f : Int → zMem → zRs) => ∀ (v10 : Int) (u11 : zMem), zMd [1114, 1115, 1116, 1117, 1118, 1119] u0 u11 (f v10 u11)) (fun v10 u11 => ?_) (fun k12 hk12 => ?_)
    ·
      refine md_nz ?_
      exact hk4 _ _ _
    ·
      refine md_if ?_ ?_
      ·
        exact hk12 _ _
      ·
        exact hk12 _ _
theorem mX11_whose (x0 x1 : Int) (u0 : zMem) : zMd [1114, 1115, 1116, 1117, 1118, 1119] u0 u0 (fX11_whose x0 x1 u0) := by
  unfold fX11_whose
  refine md_vc (mX11_isPaper x0 x1 u0) (by decide) (fun v1 u2 => ?_)
  refine md_if ?_ ?_
  ·
    refine md_gf (fun v3 => ?_)
    refine md_if ?_ ?_
    ·
      refine zlp_ind (fun (f : Int → Int → Int → zMem → zRs) => ∀ (v4 : Int) (v5 : Int) (v6 : Int) (u7 : zMem), zMd [1114, 1115, 1116, 1117, 1118, 1119] u0 u7 (f v4 v5 v6 u7)) (fun _ _ _ _ => md_none) (fun k8 hk8 v4 v5 v6 u7 => ?_) _ _ _ _ _
      refine md_gf (fun v9 => ?_)
      refine md_if ?_ ?_
      ·
        exact md_ret
      ·
        refine md_vc (mX11_likeOf x0 v6 x1 u7) (by decide) (fun v10 u11 => ?_)
        refine md_jn (P := fun (f : Int → Int → zMem → zRs) => ∀ (v12 : Int) (v13 : Int) (u14 : zMem), zMd [1114, 1115, 1116, 1117, 1118, 1119] u0 u14 (f v12 v13 u14)) (fun v12 v13 u14 => ?_) (fun k15 hk15 => ?_)
        ·
          exact hk8 _ _ _ _
        ·
          refine md_if ?_ ?_
          ·
            exact hk15 _ _ _
          ·
            exact hk15 _ _ _
    ·
      exact md_ret
  ·
    exact md_ret
theorem mX11_learnt (x0 x1 x2 : Int) (u0 : zMem) : zMd [1114, 1115, 1116, 1117, 1118, 1119] u0 u0 (fX11_learnt x0 x1 x2 u0) := by
  unfold fX11_learnt
  refine md_if ?_ ?_
  ·
    exact md_ret
  ·
    refine md_gf (fun v1 => ?_)
    refine md_if ?_ ?_
    ·
      exact md_ret
    ·
      refine md_call (mX11_within x2 0 1 u0) (by decide) (fun v2 u3 => ?_)
      refine md_if ?_ ?_
      ·
        refine md_gf (fun v4 => ?_)
        refine md_if ?_ ?_
        ·
          refine zlp_ind (fun (f : Int → Int → Int → zMem → zRs) => ∀ (v5 : Int) (v6 : Int) (v7 : Int) (u8 : zMem), zMd [1114, 1115, 1116, 1117, 1118, 1119] u0 u8 (f v5 v6 v7 u8)) (fun _ _ _ _ => md_none) (fun k9 hk9 v5 v6 v7 u8 => ?_) _ _ _ _ _
          refine md_gf (fun v10 => ?_)
          refine md_if ?_ ?_
          ·
            refine md_if ?_ ?_
            ·
              exact md_ret
            ·
              exact md_ret
          ·
            refine zlp_ind (fun (f : Int → Int → zMem → zRs) => ∀ (v11 : Int) (v12 : Int) (u13 : zMem), zMd [1114, 1115, 1116, 1117, 1118, 1119] u0 u13 (f v11 v12 u13)) (fun _ _ _ => md_none) (fun k14 hk14 v11 v12 u13 => ?_) _ _ _ _
            refine md_gf (fun v15 => ?_)
            refine md_if ?_ ?_
            ·
              refine md_jn (P := fun (f : Int → Int → zMem → zRs) => ∀ (v16 : Int) (v17 : Int) (u18 : zMem), zMd [1114, 1115, 1116, 1117, 1118, 1119] u0 u18 (f v16 v17 u18)) (fun v16 v17 u18 => ?_) (fun k19 hk19 => ?_)
              ·
                exact hk9 _ _ _ _
              ·
                refine md_jn (P := fun (f : zMem → zRs) => ∀ (u20 : zMem), zMd [1114, 1115, 1116, 1117, 1118, 1119] u0 u20 (f u20)) (fun u20 => ?_) (fun k21 hk21 => ?_)
                ·
                  exact hk19 _ _ _
                ·
                  refine md_if ?_ ?_
                  ·
                    exact hk21 _
                  ·
                    refine md_if ?_ ?_
                    ·
                      exact hk19 _ _ _
                    ·
                      exact hk21 _
            ·
              refine zlp_ind (fun (f : Int → Int → zMem → zRs) => ∀ (v22 : Int) (v23 : Int) (u24 : zMem), zMd [1114, 1115, 1116, 1117, 1118, 1119] u0 u24 (f v22 v23 u24)) (fun _ _ _ => md_none) (fun k25 hk25 v22 v23 u24 => ?_) _ _ _ _
              refine md_gf (fun v26 => ?_)
              refine md_if ?_ ?_
              ·
                refine md_call (mX11_size v22 u24) (by decide) (fun v27 u28 => ?_)
                exact hk14 _ _ _
              ·
                refine md_jn (P := fun (f : Int → zMem → zRs) => ∀ (v29 : Int) (u30 : zMem), zMd [1114, 1115, 1116, 1117, 1118, 1119] u0 u30 (f v29 u30)) (fun v29 u30 => ?_) (fun k31 hk31 => ?_)
                ·
                  exact hk25 _ _ _
                ·
                  refine md_if ?_ ?_
                  ·
                    exact hk31 _ _
                  ·
                    refine md_vc (mX11_heedOf x0 v7 v12 u24) (by decide) (fun v32 u33 => ?_)
                    refine md_vc (mX11_has x0 v23 v12 u33) (by decide) (fun v34 u35 => ?_)
                    refine md_jn (P := fun (f : Int → zMem → zRs) => ∀ (v36 : Int) (u37 : zMem), zMd [1114, 1115, 1116, 1117, 1118, 1119] u0 u37 (f v36 u37)) (fun v36 u37 => ?_) (fun k38 hk38 => ?_)
                    ·
                      exact hk31 _ _
                    ·
                      refine md_if ?_ ?_
                      ·
                        exact hk38 _ _
                      ·
                        exact hk38 _ _
        ·
          exact md_ret
      ·
        exact md_ret
theorem mX11_asleep (x0 x1 x2 : Int) (u0 : zMem) : zMd [] u0 u0 (fX11_asleep x0 x1 x2 u0) := by
  unfold fX11_asleep
  refine md_vc (mX11_isPaper x0 x1 u0) (by decide) (fun v1 u2 => ?_)
  refine md_if ?_ ?_
  ·
    exact md_ret
  ·
    refine md_call (mX11_within x2 0 1 u2) (by decide) (fun v3 u4 => ?_)
    refine md_if ?_ ?_
    ·
      refine zlp_ind (fun (f : Int → Int → Int → Int → Int → zMem → zRs) => ∀ (v5 : Int) (v6 : Int) (v7 : Int) (v8 : Int) (v9 : Int) (u10 : zMem), zMd [] u0 u10 (f v5 v6 v7 v8 v9 u10)) (fun _ _ _ _ _ _ => md_none) (fun k11 hk11 v5 v6 v7 v8 v9 u10 => ?_) _ _ _ _ _ _ _
      refine md_gf (fun v12 => ?_)
      refine md_if ?_ ?_
      ·
        refine md_if ?_ ?_
        ·
          exact md_ret
        ·
          exact md_ret
      ·
        refine md_vc (mX11_has x0 x1 v9 u10) (by decide) (fun v13 u14 => ?_)
        refine md_jn (P := fun (f : Int → Int → Int → Int → zMem → zRs) => ∀ (v15 : Int) (v16 : Int) (v17 : Int) (v18 : Int) (u19 : zMem), zMd [] u0 u19 (f v15 v16 v17 v18 u19)) (fun v15 v16 v17 v18 u19 => ?_) (fun k20 hk20 => ?_)
        ·
          exact hk11 _ _ _ _ _ _
        ·
          refine md_if ?_ ?_
          ·
            refine md_gfA (by decide +kernel) (by decide) (fun v21 ov21 => ?_)
            refine md_ald (fun v22 => ?_)
            refine md_if ?_ ?_
            ·
              exact hk20 _ _ _ _ _
            ·
              refine md_vc (mX11_minuteOf x0 v8 u14) (by decide) (fun v23 u24 => ?_)
              exact hk20 _ _ _ _ _
          ·
            exact hk20 _ _ _ _ _
    ·
      exact md_ret
theorem mX11_ask (x0 x1 : Int) (u0 : zMem) : zMd [1114, 1115, 1116, 1117, 1118, 1119] u0 u0 (fX11_ask x0 x1 u0) := by
  unfold fX11_ask
  refine md_call (mX11_within x1 0 1 u0) (by decide) (fun v1 u2 => ?_)
  refine md_if ?_ ?_
  ·
    refine md_gf (fun v3 => ?_)
    refine md_if ?_ ?_
    ·
      refine zlp_ind (fun (f : Int → Int → Int → zMem → zRs) => ∀ (v4 : Int) (v5 : Int) (v6 : Int) (u7 : zMem), zMd [1114, 1115, 1116, 1117, 1118, 1119] u0 u7 (f v4 v5 v6 u7)) (fun _ _ _ _ => md_none) (fun k8 hk8 v4 v5 v6 u7 => ?_) _ _ _ _ _
      refine md_gf (fun v9 => ?_)
      refine md_if ?_ ?_
      ·
        refine md_if ?_ ?_
        ·
          exact md_ret
        ·
          exact md_ret
      ·
        refine zlp_ind (fun (f : Int → Int → Int → zMem → zRs) => ∀ (v10 : Int) (v11 : Int) (v12 : Int) (u13 : zMem), zMd [1114, 1115, 1116, 1117, 1118, 1119] u0 u13 (f v10 v11 v12 u13)) (fun _ _ _ _ => md_none) (fun k14 hk14 v10 v11 v12 u13 => ?_) _ _ _ _ _
        refine md_gf (fun v15 => ?_)
        refine md_if ?_ ?_
        ·
          exact hk8 _ _ _ _
        ·
          refine zlp_ind (fun (f : Int → Int → zMem → zRs) => ∀ (v16 : Int) (v17 : Int) (u18 : zMem), zMd [1114, 1115, 1116, 1117, 1118, 1119] u0 u18 (f v16 v17 u18)) (fun _ _ _ => md_none) (fun k19 hk19 v16 v17 u18 => ?_) _ _ _ _
          refine md_gf (fun v20 => ?_)
          refine md_if ?_ ?_
          ·
            refine md_jn (P := fun (f : Int → Int → zMem → zRs) => ∀ (v21 : Int) (v22 : Int) (u23 : zMem), zMd [1114, 1115, 1116, 1117, 1118, 1119] u0 u23 (f v21 v22 u23)) (fun v21 v22 u23 => ?_) (fun k24 hk24 => ?_)
            ·
              exact hk14 _ _ _ _
            ·
              refine md_jn (P := fun (f : zMem → zRs) => ∀ (u25 : zMem), zMd [1114, 1115, 1116, 1117, 1118, 1119] u0 u25 (f u25)) (fun u25 => ?_) (fun k26 hk26 => ?_)
              ·
                exact hk24 _ _ _
              ·
                refine md_if ?_ ?_
                ·
                  exact hk26 _
                ·
                  refine md_if ?_ ?_
                  ·
                    exact hk24 _ _ _
                  ·
                    exact hk26 _
          ·
            refine md_vc (mX11_heedOf x0 v6 v17 u18) (by decide) (fun v27 u28 => ?_)
            refine md_vc (mX11_heedOf x0 v12 v17 u28) (by decide) (fun v29 u30 => ?_)
            exact hk19 _ _ _
    ·
      exact md_ret
  ·
    exact md_ret
theorem mX11_years (x0 x1 x2 : Int) (u0 : zMem) : zMd [1114, 1115, 1116, 1117, 1118, 1119] u0 u0 (fX11_years x0 x1 x2 u0) := by
  unfold fX11_years
  refine md_vc (mX11_isWriter x0 x1 u0) (by decide) (fun v1 u2 => ?_)
  refine md_if ?_ ?_
  ·
    exact md_ret
  ·
    refine md_call (mX11_within x2 0 99 u2) (by decide) (fun v3 u4 => ?_)
    refine md_if ?_ ?_
    ·
      refine zlp_ind (fun (f : Int → Int → zMem → zRs) => ∀ (v5 : Int) (v6 : Int) (u7 : zMem), zMd [1114, 1115, 1116, 1117, 1118, 1119] u0 u7 (f v5 v6 u7)) (fun _ _ _ => md_none) (fun k8 hk8 v5 v6 u7 => ?_) _ _ _ _
      refine md_gf (fun v9 => ?_)
      refine md_if ?_ ?_
      ·
        exact md_ret
      ·
        refine md_vc (mX11_heedOf x0 x1 v6 u7) (by decide) (fun v10 u11 => ?_)
        refine md_nz ?_
        exact hk8 _ _ _
    ·
      exact md_ret
theorem mX11_isBody (x0 x1 : Int) (u0 : zMem) : zMd [] u0 u0 (fX11_isBody x0 x1 u0) := by
  unfold fX11_isBody
  refine md_gf (fun v1 => ?_)
  refine md_call (mX11_within x1 0 (zw32 (v1 - 1)) u0) (by decide) (fun v2 u3 => ?_)
  exact md_bl md_ret
theorem mX11_kindOf (x0 x1 : Int) (u0 : zMem) : zMd [] u0 u0 (fX11_kindOf x0 x1 u0) := by
  unfold fX11_kindOf
  refine md_gfA (by decide +kernel) (by decide) (fun v1 ov1 => ?_)
  refine md_ald (fun v2 => ?_)
  exact md_ret
theorem mX11_body (x0 x1 : Int) (u0 : zMem) : zMd [1127, 1128] u0 u0 (fX11_body x0 x1 u0) := by
  unfold fX11_body
  refine md_call (mX11_within x1 0 7 u0) (by decide) (fun v1 u2 => ?_)
  refine md_if ?_ ?_
  ·
    refine md_gf (fun v3 => ?_)
    refine md_if ?_ ?_
    ·
      refine md_gfA (by decide +kernel) (by decide) (fun v4 ov4 => ?_)
      refine md_gf (fun v5 => ?_)
      refine md_ast ov4 (by decide) (by decide) (fun u6 => ?_)
      refine md_gf (fun v7 => ?_)
      refine md_pf (by decide) (by decide) (by decide) (fun u8 => ?_)
      refine md_gf (fun v9 => ?_)
      exact md_ret
    ·
      exact md_ret
  ·
    exact md_ret
theorem mX11_above (x0 : Int) (u0 : zMem) : zMd [] u0 u0 (fX11_above x0 u0) := by
  unfold fX11_above
  refine md_jn (P := fun (f : zMem → zRs) => ∀ (u1 : zMem), zMd [] u0 u1 (f u1)) (fun u1 => ?_) (fun k2 hk2 => ?_)
  ·
    exact md_ret
  ·
    refine md_if ?_ ?_
    ·
      exact hk2 _
    ·
      refine md_if ?_ ?_
      ·
        refine md_if ?_ ?_
        ·
          refine md_if ?_ ?_
          ·
            exact md_ret
          ·
            exact md_ret
        ·
          exact md_ret
      ·
        exact hk2 _
theorem mX11_begins (x0 x1 : Int) (u0 : zMem) : zMd [1129, 1130] u0 u0 (fX11_begins x0 x1 u0) := by
  unfold fX11_begins
  refine md_gf (fun v1 => ?_)
  refine md_jn (P := fun (f : zMem → zRs) => ∀ (u2 : zMem), zMd [1129, 1130] u0 u2 (f u2)) (fun u2 => ?_) (fun k3 hk3 => ?_)
  ·
    refine md_gf (fun v4 => ?_)
    refine md_pf (by decide) (by decide) (by decide) (fun u5 => ?_)
    exact md_ret
  ·
    refine md_if ?_ ?_
    ·
      exact hk3 _
    ·
      refine md_gfA (by decide +kernel) (by decide) (fun v6 ov6 => ?_)
      refine md_gf (fun v7 => ?_)
      refine md_ast ov6 (by decide) (by decide) (fun u8 => ?_)
      exact hk3 _
theorem gX11_saysAs_m0 (rec : (Int → Int → Int → zMem → zRs)) (ih : (∀ (x0 x1 x2 : Int) (u0 : zMem), zMd [1129, 1130] u0 u0 (rec x0 x1 x2 u0))) : ∀ (x0 x1 x2 : Int) (u0 : zMem), zMd [1129, 1130] u0 u0 (gX11_saysAs_b0 rec x0 x1 x2 u0) := by
  intro x0 x1 x2 u0
  unfold gX11_saysAs_b0
  refine md_if ?_ ?_
  ·
    refine md_jn (P := fun (f : zMem → zRs) => ∀ (u1 : zMem), zMd [1129, 1130] u0 u1 (f u1)) (fun u1 => ?_) (fun k2 hk2 => ?_)
    ·
      refine md_vc (mX11_begins x0 1 u1) (by decide) (fun _ u3 => ?_)
      refine md_gf (fun v4 => ?_)
      exact md_ret
    ·
      refine md_if ?_ ?_
      ·
        exact hk2 _
      ·
        refine md_if ?_ ?_
        ·
          exact hk2 _
        ·
          refine md_vc (mX11_begins x0 20 u0) (by decide) (fun _ u5 => ?_)
          refine md_vc (ih x0 0 x2 u5) (fun _ h => h) (fun v6 u7 => ?_)
          exact md_ret
  ·
    refine md_vc (mX11_begins x0 70 u0) (by decide) (fun _ u8 => ?_)
    refine md_vc (ih x0 0 x2 u8) (fun _ h => h) (fun v9 u10 => ?_)
    exact md_ret
theorem gX11_saysAs_mall : ∀ n : Nat, (∀ (x0 x1 x2 : Int) (u0 : zMem), zMd [1129, 1130] u0 u0 (gX11_saysAs n x0 x1 x2 u0))
  | 0 => fun _ _ _ _ => md_none
  | n + 1 => gX11_saysAs_m0 (gX11_saysAs n) (gX11_saysAs_mall n)
theorem mX11_saysAs (x0 x1 x2 : Int) (u0 : zMem) : zMd [1129, 1130] u0 u0 (fX11_saysAs x0 x1 x2 u0) := (gX11_saysAs_mall 200) x0 x1 x2 u0
theorem gX11_mendsAs_m0 (rec : (Int → Int → Int → zMem → zRs)) (ih : (∀ (x0 x1 x2 : Int) (u0 : zMem), zMd [1129, 1130] u0 u0 (rec x0 x1 x2 u0))) : ∀ (x0 x1 x2 : Int) (u0 : zMem), zMd [1129, 1130] u0 u0 (gX11_mendsAs_b0 rec x0 x1 x2 u0) := by
  intro x0 x1 x2 u0
  unfold gX11_mendsAs_b0
  refine md_if ?_ ?_
  ·
    refine md_if ?_ ?_
    ·
      refine md_vc (mX11_begins x0 11 u0) (by decide) (fun _ u1 => ?_)
      refine md_gf (fun v2 => ?_)
      exact md_ret
    ·
      refine md_vc (mX11_begins x0 40 u0) (by decide) (fun _ u3 => ?_)
      refine md_vc (ih x0 1 x2 u3) (fun _ h => h) (fun v4 u5 => ?_)
      exact md_ret
  ·
    refine md_vc (mX11_begins x0 60 u0) (by decide) (fun _ u6 => ?_)
    refine md_vc (ih x0 3 x2 u6) (fun _ h => h) (fun v7 u8 => ?_)
    refine md_gf (fun v9 => ?_)
    refine md_vc (mX11_saysAs x0 v9 2 u8) (by decide) (fun v10 u11 => ?_)
    exact md_ret
theorem gX11_mendsAs_mall : ∀ n : Nat, (∀ (x0 x1 x2 : Int) (u0 : zMem), zMd [1129, 1130] u0 u0 (gX11_mendsAs n x0 x1 x2 u0))
  | 0 => fun _ _ _ _ => md_none
  | n + 1 => gX11_mendsAs_m0 (gX11_mendsAs n) (gX11_mendsAs_mall n)
theorem mX11_mendsAs (x0 x1 x2 : Int) (u0 : zMem) : zMd [1129, 1130] u0 u0 (fX11_mendsAs x0 x1 x2 u0) := (gX11_mendsAs_mall 200) x0 x1 x2 u0
theorem gX11_takesAs_m0 (rec : (Int → Int → Int → zMem → zRs)) (ih : (∀ (x0 x1 x2 : Int) (u0 : zMem), zMd [1129, 1130] u0 u0 (rec x0 x1 x2 u0))) : ∀ (x0 x1 x2 : Int) (u0 : zMem), zMd [1129, 1130] u0 u0 (gX11_takesAs_b0 rec x0 x1 x2 u0) := by
  intro x0 x1 x2 u0
  unfold gX11_takesAs_b0
  refine md_if ?_ ?_
  ·
    refine md_if ?_ ?_
    ·
      refine md_jn (P := fun (f : zMem → zRs) => ∀ (u1 : zMem), zMd [1129, 1130] u0 u1 (f u1)) (fun u1 => ?_) (fun k2 hk2 => ?_)
      ·
        refine md_vc (mX11_begins x0 41 u1) (by decide) (fun _ u3 => ?_)
        refine md_vc (ih x0 1 (zw32 (x2 + 1)) u3) (fun _ h => h) (fun v4 u5 => ?_)
        exact md_ret
      ·
        refine md_if ?_ ?_
        ·
          exact hk2 _
        ·
          refine md_if ?_ ?_
          ·
            refine md_vc (mX11_begins x0 10 u0) (by decide) (fun _ u6 => ?_)
            refine md_gf (fun v7 => ?_)
            refine md_vc (mX11_saysAs x0 v7 x2 u6) (by decide) (fun v8 u9 => ?_)
            exact md_ret
          ·
            exact hk2 _
    ·
      refine md_vc (mX11_begins x0 30 u0) (by decide) (fun _ u10 => ?_)
      refine md_vc (ih x0 1 x2 u10) (fun _ h => h) (fun v11 u12 => ?_)
      exact md_ret
  ·
    refine md_vc (mX11_begins x0 80 u0) (by decide) (fun _ u13 => ?_)
    refine md_vc (ih x0 2 x2 u13) (fun _ h => h) (fun v14 u15 => ?_)
    refine md_gf (fun v16 => ?_)
    refine md_vc (mX11_mendsAs x0 v16 2 u15) (by decide) (fun v17 u18 => ?_)
    exact md_ret
theorem gX11_takesAs_mall : ∀ n : Nat, (∀ (x0 x1 x2 : Int) (u0 : zMem), zMd [1129, 1130] u0 u0 (gX11_takesAs n x0 x1 x2 u0))
  | 0 => fun _ _ _ _ => md_none
  | n + 1 => gX11_takesAs_m0 (gX11_takesAs n) (gX11_takesAs_mall n)
theorem mX11_takesAs (x0 x1 x2 : Int) (u0 : zMem) : zMd [1129, 1130] u0 u0 (fX11_takesAs x0 x1 x2 u0) := (gX11_takesAs_mall 200) x0 x1 x2 u0
theorem gX11_joinsAs_m0 (rec : (Int → Int → Int → zMem → zRs)) (ih : (∀ (x0 x1 x2 : Int) (u0 : zMem), zMd [1129, 1130] u0 u0 (rec x0 x1 x2 u0))) : ∀ (x0 x1 x2 : Int) (u0 : zMem), zMd [1129, 1130] u0 u0 (gX11_joinsAs_b0 rec x0 x1 x2 u0) := by
  intro x0 x1 x2 u0
  unfold gX11_joinsAs_b0
  refine md_if ?_ ?_
  ·
    refine md_if ?_ ?_
    ·
      refine md_if ?_ ?_
      ·
        refine md_vc (mX11_begins x0 2 u0) (by decide) (fun _ u1 => ?_)
        refine md_gf (fun v2 => ?_)
        refine md_vc (mX11_takesAs x0 v2 x2 u1) (by decide) (fun v3 u4 => ?_)
        refine md_gf (fun v5 => ?_)
        refine md_vc (mX11_mendsAs x0 v5 1 u4) (by decide) (fun v6 u7 => ?_)
        exact md_ret
      ·
        refine md_vc (mX11_begins x0 81 u0) (by decide) (fun _ u8 => ?_)
        refine md_vc (ih x0 2 x2 u8) (fun _ h => h) (fun v9 u10 => ?_)
        exact md_ret
    ·
      refine md_vc (mX11_begins x0 61 u0) (by decide) (fun _ u11 => ?_)
      refine md_vc (ih x0 3 x2 u11) (fun _ h => h) (fun v12 u13 => ?_)
      exact md_ret
  ·
    refine md_vc (mX11_begins x0 50 u0) (by decide) (fun _ u14 => ?_)
    refine md_vc (ih x0 0 x2 u14) (fun _ h => h) (fun v15 u16 => ?_)
    exact md_ret
theorem gX11_joinsAs_mall : ∀ n : Nat, (∀ (x0 x1 x2 : Int) (u0 : zMem), zMd [1129, 1130] u0 u0 (gX11_joinsAs n x0 x1 x2 u0))
  | 0 => fun _ _ _ _ => md_none
  | n + 1 => gX11_joinsAs_m0 (gX11_joinsAs n) (gX11_joinsAs_mall n)
theorem mX11_joinsAs (x0 x1 x2 : Int) (u0 : zMem) : zMd [1129, 1130] u0 u0 (fX11_joinsAs x0 x1 x2 u0) := (gX11_joinsAs_mall 200) x0 x1 x2 u0
theorem mX11_act (x0 x1 x2 x3 : Int) (u0 : zMem) : zMd [1129, 1130, 1131, 1132] u0 u0 (fX11_act x0 x1 x2 x3 u0) := by
  unfold fX11_act
  refine md_pf (by decide) (by decide) (by decide) (fun u1 => ?_)
  refine md_vc (mX11_isBody x0 x1 u1) (by decide) (fun v2 u3 => ?_)
  refine md_if ?_ ?_
  ·
    refine md_gfA (by decide +kernel) (by decide) (fun v4 ov4 => ?_)
    refine md_ald (fun v5 => ?_)
    refine md_pf (by decide) (by decide) (by decide) (fun u6 => ?_)
    refine md_pf (by decide) (by decide) (by decide) (fun u7 => ?_)
    refine md_if ?_ ?_
    ·
      refine md_gf (fun v9 => ?_)
      refine md_vc (mX11_saysAs x0 v9 x3 u7) (by decide) (fun v10 u11 => ?_)
      exact md_ret
    ·
      refine md_if ?_ ?_
      ·
        refine md_gf (fun v13 => ?_)
        refine md_vc (mX11_takesAs x0 v13 x3 u7) (by decide) (fun v14 u15 => ?_)
        exact md_ret
      ·
        refine md_if ?_ ?_
        ·
          refine md_gf (fun v17 => ?_)
          refine md_vc (mX11_mendsAs x0 v17 x3 u7) (by decide) (fun v18 u19 => ?_)
          exact md_ret
        ·
          refine md_if ?_ ?_
          ·
            refine md_gf (fun v21 => ?_)
            refine md_vc (mX11_joinsAs x0 v21 x3 u7) (by decide) (fun v22 u23 => ?_)
            exact md_ret
          ·
            exact md_ret
  ·
    exact md_ret
theorem mX11_trace (x0 x1 : Int) (u0 : zMem) : zMd [] u0 u0 (fX11_trace x0 x1 u0) := by
  unfold fX11_trace
  refine md_jn (P := fun (f : zMem → zRs) => ∀ (u1 : zMem), zMd [] u0 u1 (f u1)) (fun u1 => ?_) (fun k2 hk2 => ?_)
  ·
    exact md_ret
  ·
    refine md_if ?_ ?_
    ·
      exact hk2 _
    ·
      refine md_gf (fun v3 => ?_)
      refine md_if ?_ ?_
      ·
        exact hk2 _
      ·
        refine md_if ?_ ?_
        ·
          exact hk2 _
        ·
          refine md_gfA (by decide +kernel) (by decide) (fun v4 ov4 => ?_)
          refine md_ald (fun v5 => ?_)
          exact md_ret
theorem mX11_keep (x0 x1 x2 : Int) (u0 : zMem) : zMd [1133, 1134] u0 u0 (fX11_keep x0 x1 x2 u0) := by
  unfold fX11_keep
  refine md_call (mX11_isShelf x1 u0) (by decide) (fun v1 u2 => ?_)
  refine md_if ?_ ?_
  ·
    exact md_ret
  ·
    refine md_jn (P := fun (f : zMem → zRs) => ∀ (u3 : zMem), zMd [1133, 1134] u0 u3 (f u3)) (fun u3 => ?_) (fun k4 hk4 => ?_)
    ·
      refine md_gfA (by decide +kernel) (by decide) (fun v5 ov5 => ?_)
      refine md_ast ov5 (by decide) (by decide) (fun u6 => ?_)
      refine md_gfA (by decide +kernel) (by decide) (fun v7 ov7 => ?_)
      refine md_ast ov7 (by decide) (by decide) (fun u8 => ?_)
      exact md_ret
    ·
      refine md_if ?_ ?_
      ·
        exact hk4 _
      ·
        refine md_vc (mX11_isBody x0 x2 u2) (by decide) (fun v9 u10 => ?_)
        refine md_if ?_ ?_
        ·
          exact hk4 _
        ·
          exact md_ret
theorem mX11_row (x0 x1 x2 x3 : Int) (u0 : zMem) : zMd [1133, 1134, 1135] u0 u0 (fX11_row x0 x1 x2 x3 u0) := by
  unfold fX11_row
  refine md_call (mX11_isShelf x1 u0) (by decide) (fun v1 u2 => ?_)
  refine md_if ?_ ?_
  ·
    exact md_ret
  ·
    refine md_call (mX11_within x2 0 4 u2) (by decide) (fun v3 u4 => ?_)
    refine md_if ?_ ?_
    ·
      exact md_ret
    ·
      refine md_if ?_ ?_
      ·
        refine md_if ?_ ?_
        ·
          refine md_gfA (by decide +kernel) (by decide) (fun v5 ov5 => ?_)
          refine md_ast ov5 (by decide) (by decide) (fun u6 => ?_)
          refine md_gfA (by decide +kernel) (by decide) (fun v7 ov7 => ?_)
          refine md_ast ov7 (by decide) (by decide) (fun u8 => ?_)
          refine zlp_ind (fun (f : Int → zMem → zRs) => ∀ (v9 : Int) (u10 : zMem), zMd [1133, 1134, 1135] u0 u10 (f v9 u10)) (fun _ _ => md_none) (fun k11 hk11 v9 u10 => ?_) _ _ _
          refine md_if ?_ ?_
          ·
            exact md_ret
          ·
            refine md_gfA (by decide +kernel) (by decide) (fun v12 ov12 => ?_)
            refine md_ast ov12 (by decide) (by decide) (fun u13 => ?_)
            exact hk11 _ _
        ·
          exact md_ret
      ·
        exact md_ret
theorem mX11_refusal (x0 x1 x2 : Int) (u0 : zMem) : zMd [] u0 u0 (fX11_refusal x0 x1 x2 u0) := by
  unfold fX11_refusal
  refine md_call (mX11_isShelf x1 u0) (by decide) (fun v1 u2 => ?_)
  refine md_if ?_ ?_
  ·
    refine md_gfA (by decide +kernel) (by decide) (fun v3 ov3 => ?_)
    refine md_ald (fun v4 => ?_)
    refine md_if ?_ ?_
    ·
      refine md_gfA (by decide +kernel) (by decide) (fun v5 ov5 => ?_)
      refine md_ald (fun v6 => ?_)
      refine md_if ?_ ?_
      ·
        refine md_jn (P := fun (f : zMem → zRs) => ∀ (u7 : zMem), zMd [] u0 u7 (f u7)) (fun u7 => ?_) (fun k8 hk8 => ?_)
        ·
          exact md_ret
        ·
          refine md_if ?_ ?_
          ·
            exact hk8 _
          ·
            refine md_gfA (by decide +kernel) (by decide) (fun v9 ov9 => ?_)
            refine md_ald (fun v10 => ?_)
            refine md_if ?_ ?_
            ·
              exact hk8 _
            ·
              exact md_ret
      ·
        exact md_ret
    ·
      exact md_ret
  ·
    exact md_ret
theorem mX11_asSort (x0 x1 : Int) (u0 : zMem) : zMd [] u0 u0 (fX11_asSort x0 x1 u0) := by
  unfold fX11_asSort
  refine md_if ?_ ?_
  ·
    refine md_if ?_ ?_
    ·
      refine md_if ?_ ?_
      ·
        refine md_if ?_ ?_
        ·
          exact md_ret
        ·
          refine md_if ?_ ?_
          ·
            exact md_ret
          ·
            exact md_ret
      ·
        exact md_ret
    ·
      exact md_ret
  ·
    exact md_ret
theorem mX11_put (x0 x1 x2 x3 : Int) (u0 : zMem) : zMd [1135] u0 u0 (fX11_put x0 x1 x2 x3 u0) := by
  unfold fX11_put
  refine md_vc (mX11_refusal x0 x1 x2 u0) (by decide) (fun v1 u2 => ?_)
  refine md_jn (P := fun (f : zMem → zRs) => ∀ (u3 : zMem), zMd [1135] u0 u3 (f u3)) (fun u3 => ?_) (fun k4 hk4 => ?_)
  ·
    refine md_if ?_ ?_
    ·
      exact md_ret
    ·
      exact md_ret
  ·
    refine md_if ?_ ?_
    ·
      exact hk4 _
    ·
      refine md_gfA (by decide +kernel) (by decide) (fun v5 ov5 => ?_)
      refine md_gfA (by decide +kernel) (by decide) (fun v6 ov6 => ?_)
      refine md_ald (fun v7 => ?_)
      refine md_call (mX11_asSort (zw32 (v7 - 50)) x3 u2) (by decide) (fun v8 u9 => ?_)
      refine md_ast ov5 (by decide) (by decide) (fun u10 => ?_)
      exact hk4 _
theorem mX11_element (x0 x1 x2 : Int) (u0 : zMem) : zMd [] u0 u0 (fX11_element x0 x1 x2 u0) := by
  unfold fX11_element
  refine md_vc (mX11_refusal x0 x1 x2 u0) (by decide) (fun v1 u2 => ?_)
  refine md_if ?_ ?_
  ·
    refine md_gfA (by decide +kernel) (by decide) (fun v3 ov3 => ?_)
    refine md_ald (fun v4 => ?_)
    exact md_ret
  ·
    exact md_ret
theorem mX11_shift (x0 x1 x2 x3 x4 x5 : Int) (u0 : zMem) : zMd [1135, 1136] u0 u0 (fX11_shift x0 x1 x2 x3 x4 x5 u0) := by
  unfold fX11_shift
  refine md_call (mX11_isShelf x1 u0) (by decide) (fun v1 u2 => ?_)
  refine md_if ?_ ?_
  ·
    exact md_ret
  ·
    refine md_call (mX11_isShelf x3 u2) (by decide) (fun v3 u4 => ?_)
    refine md_if ?_ ?_
    ·
      refine md_gfA (by decide +kernel) (by decide) (fun v5 ov5 => ?_)
      refine md_ald (fun v6 => ?_)
      refine md_if ?_ ?_
      ·
        exact md_ret
      ·
        refine md_gfA (by decide +kernel) (by decide) (fun v7 ov7 => ?_)
        refine md_ald (fun v8 => ?_)
        refine md_if ?_ ?_
        ·
          refine md_gfA (by decide +kernel) (by decide) (fun v9 ov9 => ?_)
          refine md_ald (fun v10 => ?_)
          refine md_if ?_ ?_
          ·
            exact md_ret
          ·
            refine md_gfA (by decide +kernel) (by decide) (fun v11 ov11 => ?_)
            refine md_ald (fun v12 => ?_)
            refine md_gfA (by decide +kernel) (by decide) (fun v13 ov13 => ?_)
            refine md_ald (fun v14 => ?_)
            refine md_if ?_ ?_
            ·
              refine md_if ?_ ?_
              ·
                exact md_ret
              ·
                refine md_if ?_ ?_
                ·
                  exact md_ret
                ·
                  refine md_if ?_ ?_
                  ·
                    exact md_ret
                  ·
                    refine md_gfA (by decide +kernel) (by decide) (fun v15 ov15 => ?_)
                    refine md_ald (fun v16 => ?_)
                    refine md_if ?_ ?_
                    ·
                      exact md_ret
                    ·
                      refine md_gfA (by decide +kernel) (by decide) (fun v17 ov17 => ?_)
                      refine md_ald (fun v18 => ?_)
                      refine md_if ?_ ?_
                      ·
                        refine zlp_ind (fun (f : Int → zMem → zRs) => ∀ (v19 : Int) (u20 : zMem), zMd [1135, 1136] u0 u20 (f v19 u20)) (fun _ _ => md_none) (fun k21 hk21 v19 u20 => ?_) _ _ _
                        refine md_if ?_ ?_
                        ·
                          refine zlp_ind (fun (f : Int → zMem → zRs) => ∀ (v22 : Int) (u23 : zMem), zMd [1135, 1136] u0 u23 (f v22 u23)) (fun _ _ => md_none) (fun k24 hk24 v22 u23 => ?_) _ _ _
                          refine md_if ?_ ?_
                          ·
                            exact md_ret
                          ·
                            refine md_gfA (by decide +kernel) (by decide) (fun v25 ov25 => ?_)
                            refine md_gfA (by decide +kernel) (by decide) (fun v26 ov26 => ?_)
                            refine md_ald (fun v27 => ?_)
                            refine md_ast ov25 (by decide) (by decide) (fun u28 => ?_)
                            exact hk24 _ _
                        ·
                          refine md_gfA (by decide +kernel) (by decide) (fun v29 ov29 => ?_)
                          refine md_gfA (by decide +kernel) (by decide) (fun v30 ov30 => ?_)
                          refine md_ald (fun v31 => ?_)
                          refine md_ast ov29 (by decide) (by decide) (fun u32 => ?_)
                          exact hk21 _ _
                      ·
                        exact md_ret
            ·
              exact md_ret
        ·
          exact md_ret
    ·
      exact md_ret
theorem mX11_taken (x0 x1 x2 : Int) (u0 : zMem) : zMd [] u0 u0 (fX11_taken x0 x1 x2 u0) := by
  unfold fX11_taken
  refine md_call (mX11_isShelf x1 u0) (by decide) (fun v1 u2 => ?_)
  refine md_if ?_ ?_
  ·
    exact md_ret
  ·
    refine md_call (mX11_within x2 0 7 u2) (by decide) (fun v3 u4 => ?_)
    refine md_if ?_ ?_
    ·
      refine md_gfA (by decide +kernel) (by decide) (fun v5 ov5 => ?_)
      refine md_ald (fun v6 => ?_)
      refine md_if ?_ ?_
      ·
        refine md_gfA (by decide +kernel) (by decide) (fun v7 ov7 => ?_)
        refine md_ald (fun v8 => ?_)
        refine md_if ?_ ?_
        ·
          refine md_gfA (by decide +kernel) (by decide) (fun v9 ov9 => ?_)
          refine md_ald (fun v10 => ?_)
          refine md_vc (mX11_kindOf x0 v10 u4) (by decide) (fun v11 u12 => ?_)
          refine zlp_ind (fun (f : Int → zMem → zRs) => ∀ (v13 : Int) (u14 : zMem), zMd [] u0 u14 (f v13 u14)) (fun _ _ => md_none) (fun k15 hk15 v13 u14 => ?_) _ _ _
          refine md_jn (P := fun (f : zMem → zRs) => ∀ (u16 : zMem), zMd [] u0 u16 (f u16)) (fun u16 => ?_) (fun k17 hk17 => ?_)
          ·
            refine md_if ?_ ?_
            ·
              exact md_ret
            ·
              refine md_gfA (by decide +kernel) (by decide) (fun v18 ov18 => ?_)
              refine md_ald (fun v19 => ?_)
              refine md_vc (mX11_kindOf x0 v19 u16) (by decide) (fun v20 u21 => ?_)
              exact md_ret
          ·
            refine md_if ?_ ?_
            ·
              exact hk17 _
            ·
              refine md_if ?_ ?_
              ·
                exact hk17 _
              ·
                refine md_call (mX11_above v13 u14) (by decide) (fun v22 u23 => ?_)
                exact hk15 _ _
        ·
          exact md_ret
      ·
        exact md_ret
    ·
      exact md_ret
theorem mX11_count (x0 x1 : Int) (u0 : zMem) : zMd [] u0 u0 (fX11_count x0 x1 u0) := by
  unfold fX11_count
  refine md_if ?_ ?_
  ·
    refine md_gf (fun v2 => ?_)
    exact md_ret
  ·
    refine md_if ?_ ?_
    ·
      refine md_gf (fun v4 => ?_)
      exact md_ret
    ·
      refine md_if ?_ ?_
      ·
        refine md_gf (fun v6 => ?_)
        exact md_ret
      ·
        refine md_if ?_ ?_
        ·
          refine md_gf (fun v8 => ?_)
          exact md_ret
        ·
          refine md_if ?_ ?_
          ·
            refine md_gf (fun v10 => ?_)
            exact md_ret
          ·
            refine md_if ?_ ?_
            ·
              refine md_gf (fun v12 => ?_)
              exact md_ret
            ·
              refine md_if ?_ ?_
              ·
                refine md_gf (fun v14 => ?_)
                exact md_ret
              ·
                exact md_ret
