/-- whether paper p has saying x -/
abbrev zhas (μ : zMem) (p x : Int) : Prop := 0 ≤ zpl (μ (zbP p + 2)) x (μ (zbP p) 1).toNat 0
theorem zsm_b {f : Int → Int} (hf : ∀ i, f i = 0 ∨ f i = 1) : ∀ n : Nat, 0 ≤ zsm f n ∧ zsm f n ≤ n
  | 0 => by simp [zsm]
  | n + 1 => by
    have h1 := zsm_b hf n
    have h2 := hf n
    simp only [zsm]
    omega
theorem zamong {n p : Int} (h0 : 0 ≤ n) (h1 : n ≤ 10) (h2 : 0 ≤ p) (h3 : p < n) : zand (zshr (zw32 (zshl 1 n - 1)) p) 1 = 1 := by
  have : ∀ a : Nat, a < 11 → ∀ b : Nat, b < a → zand (zshr (zw32 (zshl 1 a - 1)) b) 1 = 1 := by decide +kernel
  obtain ⟨a, rfl⟩ : ∃ a : Nat, n = a := ⟨n.toNat, by omega⟩
  obtain ⟨b, rfl⟩ : ∃ b : Nat, p = b := ⟨p.toNat, by omega⟩
  exact this a (by omega) b (by omega)
theorem s1_papersWith {μ : zMem} (hG : zG0 μ) (hP : zGP μ) (x : Int) {F : Int → Int} (hF : ∀ p, F p = zb (zhas μ p x)) : fX1_papersWith 34 x μ = some (zsm F (μ 34 3).toNat, μ) := by
  obtain ⟨⟨h0, h1, h2⟩, h3⟩ := hP
  have hb := zsm_b (f := F) (fun i => by rw [hF]; exact zb01)
  have key : fX1_papersWith_ 34 x (zw32 (zshl 1 (μ 34 3) - 1)) μ = some (zsm F (μ 34 3).toNat, μ) := by
    unfold fX1_papersWith_
    refine zlp_meas (fun k (f : Int → Int → zMem → zRs) => ∀ (acc : Int) (n : Nat), (n : Int) ≤ μ 34 3 → μ 34 3 - n < k → acc = zsm F n → f acc (n : Int) μ = some (zsm F (μ 34 3).toNat, μ)) ?_ ?_ 1000000 0 0 (by omega) (by omega) rfl
    · intro acc n hn hk _
      omega
    · intro k f ih acc n hn hk hacc
      by_cases hi : (n : Int) = μ 34 3
      · simp (disch := omega) only [↓zcall_ok, zcall_ok, ↓zjn_ok, zjn_ok, ↓zbl_0, zbl_0, ↓zbl_1, zbl_1, ↓if_pos, if_pos, ↓if_neg, if_neg, ↓zb_ite, zb_ite, ↓zb_itn, zb_itn, ↓gf_34, gf_34, ↓pf_34, pf_34, ↓vc_34, vc_34, if_true, if_false, not_true_eq_false, not_false_eq_true, zu_eq, zu_a, zu_j, ge_iff_le, gt_iff_lt, ne_eq, Int.cast_ofNat_Int, Int.add_zero, Int.zero_add, Int.reduceAdd, Int.reduceSub, Int.reduceMul, Int.reduceNeg, ↓gq_34_0 hG, ↓gq_34_1 hG, ↓gq_34_2 hG, g_34_0 hG, g_34_1 hG, g_34_2 hG]
        rw [hacc, ← hi]
        rfl
      · have hpp := h3 n (by omega) (by omega)
        have e6 := s6_placeOf hG (p := n) (by omega) (by omega) ⟨hpp.1.1, hpp.1.2.1⟩ x
        have hh := ih (zsm F (n + 1)) (n + 1) (by omega) (by omega) rfl
        have hbn := hb n
        have ha := zamong h0 h1 (p := n) (by omega) (by omega)
        have hup : zw32 ((n : Int) + 1) = ((n + 1 : Nat) : Int) := by rw [zw32_id (by omega) (by omega)]; omega
        subst hacc
        by_cases hq : zhas μ n x
        · have e : zsm F (n + 1) = zsm F n + 1 := by simp only [zsm]; rw [hF, zb_t hq]
          rw [e] at hh
          simp (disch := omega) only [ha, ↓aq_35 hG, ↓(vcP_of (p := (n : Int)) (by omega) (by omega) e6), hup, zw32_id, ↓zcall_ok, zcall_ok, ↓zjn_ok, zjn_ok, ↓zbl_0, zbl_0, ↓zbl_1, zbl_1, ↓if_pos, if_pos, ↓if_neg, if_neg, ↓zb_ite, zb_ite, ↓zb_itn, zb_itn, ↓gf_34, gf_34, ↓pf_34, pf_34, ↓vc_34, vc_34, if_true, if_false, not_true_eq_false, not_false_eq_true, zu_eq, zu_a, zu_j, ge_iff_le, gt_iff_lt, ne_eq, Int.cast_ofNat_Int, Int.add_zero, Int.zero_add, Int.reduceAdd, Int.reduceSub, Int.reduceMul, Int.reduceNeg, ↓gq_34_0 hG, ↓gq_34_1 hG, ↓gq_34_2 hG, g_34_0 hG, g_34_1 hG, g_34_2 hG]
          exact hh
        · have e : zsm F (n + 1) = zsm F n := by simp only [zsm]; rw [hF, zb_f hq, Int.add_zero]
          rw [e] at hh
          simp (disch := omega) only [ha, ↓aq_35 hG, ↓(vcP_of (p := (n : Int)) (by omega) (by omega) e6), hup, ↓zcall_ok, zcall_ok, ↓zjn_ok, zjn_ok, ↓zbl_0, zbl_0, ↓zbl_1, zbl_1, ↓if_pos, if_pos, ↓if_neg, if_neg, ↓zb_ite, zb_ite, ↓zb_itn, zb_itn, ↓gf_34, gf_34, ↓pf_34, pf_34, ↓vc_34, vc_34, if_true, if_false, not_true_eq_false, not_false_eq_true, zu_eq, zu_a, zu_j, ge_iff_le, gt_iff_lt, ne_eq, Int.cast_ofNat_Int, Int.add_zero, Int.zero_add, Int.reduceAdd, Int.reduceSub, Int.reduceMul, Int.reduceNeg, ↓gq_34_0 hG, ↓gq_34_1 hG, ↓gq_34_2 hG, g_34_0 hG, g_34_1 hG, g_34_2 hG]
          exact hh
  unfold fX1_papersWith
  simp (disch := omega) only [↓(vq_34 key), ↓zcall_ok, zcall_ok, ↓zjn_ok, zjn_ok, ↓zbl_0, zbl_0, ↓zbl_1, zbl_1, ↓if_pos, if_pos, ↓if_neg, if_neg, ↓zb_ite, zb_ite, ↓zb_itn, zb_itn, ↓gf_34, gf_34, ↓pf_34, pf_34, ↓vc_34, vc_34, if_true, if_false, not_true_eq_false, not_false_eq_true, zu_eq, zu_a, zu_j, ge_iff_le, gt_iff_lt, ne_eq, Int.cast_ofNat_Int, Int.add_zero, Int.zero_add, Int.reduceAdd, Int.reduceSub, Int.reduceMul, Int.reduceNeg, ↓gq_34_0 hG, ↓gq_34_1 hG, ↓gq_34_2 hG, g_34_0 hG, g_34_1 hG, g_34_2 hG]
theorem s11_hadBy {μ : zMem} (hG : zG0 μ) (hP : zGP μ) (x : Int) {F : Int → Int} (hF : ∀ p, F p = zb (zhas μ p x)) : fX11_hadBy 129 x μ = some (zsm F (μ 34 3).toNat, μ) := by
  obtain ⟨⟨h0, h1, h2⟩, h3⟩ := hP
  have hb := zsm_b (f := F) (fun i => by rw [hF]; exact zb01)
  unfold fX11_hadBy
  refine zlp_meas (fun k (f : Int → Int → zMem → zRs) => ∀ (acc : Int) (n : Nat), (n : Int) ≤ μ 34 3 → μ 34 3 - n < k → acc = zsm F n → f acc (n : Int) μ = some (zsm F (μ 34 3).toNat, μ)) ?_ ?_ 1000000 0 0 (by omega) (by omega) rfl
  · intro acc n hn hk _
    omega
  · intro k f ih acc n hn hk hacc
    by_cases hi : (n : Int) = μ 34 3
    · simp (disch := omega) only [h2, ↓zcall_ok, zcall_ok, ↓zjn_ok, zjn_ok, ↓zbl_0, zbl_0, ↓zbl_1, zbl_1, ↓if_pos, if_pos, ↓if_neg, if_neg, ↓zb_ite, zb_ite, ↓zb_itn, zb_itn, ↓gf_129, gf_129, ↓pf_129, pf_129, ↓vc_129, vc_129, if_true, if_false, not_true_eq_false, not_false_eq_true, zu_eq, zu_a, zu_j, ge_iff_le, gt_iff_lt, ne_eq, Int.cast_ofNat_Int, Int.add_zero, Int.zero_add, Int.reduceAdd, Int.reduceSub, Int.reduceMul, Int.reduceNeg, ↓gq_129_0 hG, ↓gq_129_1 hG, ↓gq_129_2 hG, ↓gq_129_3 hG, ↓gq_129_7 hG, ↓gq_129_10 hG, ↓gq_129_11 hG, ↓gq_129_12 hG, ↓gq_129_13 hG, ↓gq_129_19 hG, ↓gq_129_21 hG, ↓gq_129_22 hG, ↓gq_129_23 hG, ↓gq_129_24 hG, ↓gq_129_25 hG, ↓gq_129_26 hG, ↓gq_129_28 hG, ↓gq_129_29 hG, ↓gq_129_33 hG, ↓gq_129_34 hG, ↓gq_129_35 hG, ↓gq_129_36 hG, g_129_0 hG, g_129_1 hG, g_129_2 hG, g_129_3 hG, g_129_7 hG, g_129_10 hG, g_129_11 hG, g_129_12 hG, g_129_13 hG, g_129_19 hG, g_129_21 hG, g_129_22 hG, g_129_23 hG, g_129_24 hG, g_129_25 hG, g_129_26 hG, g_129_28 hG, g_129_29 hG, g_129_33 hG, g_129_34 hG, g_129_35 hG, g_129_36 hG]
      rw [hacc, ← hi]
      rfl
    · have hpp := h3 n (by omega) (by omega)
      have e6 := s11_has hG (p := n) (by omega) (by omega) hpp x
      have hh := ih (zsm F (n + 1)) (n + 1) (by omega) (by omega) rfl
      have hbn := hb n
      have hup : zw32 ((n : Int) + 1) = ((n + 1 : Nat) : Int) := by rw [zw32_id (by omega) (by omega)]; omega
      subst hacc
      by_cases hq : zhas μ n x
      · have e : zsm F (n + 1) = zsm F n + 1 := by simp only [zsm]; rw [hF, zb_t hq]
        rw [e] at hh
        simp (disch := omega) only [h2, ↓(vq_129 e6), hup, zw32_id, ↓zcall_ok, zcall_ok, ↓zjn_ok, zjn_ok, ↓zbl_0, zbl_0, ↓zbl_1, zbl_1, ↓if_pos, if_pos, ↓if_neg, if_neg, ↓zb_ite, zb_ite, ↓zb_itn, zb_itn, ↓gf_129, gf_129, ↓pf_129, pf_129, ↓vc_129, vc_129, if_true, if_false, not_true_eq_false, not_false_eq_true, zu_eq, zu_a, zu_j, ge_iff_le, gt_iff_lt, ne_eq, Int.cast_ofNat_Int, Int.add_zero, Int.zero_add, Int.reduceAdd, Int.reduceSub, Int.reduceMul, Int.reduceNeg, ↓gq_129_0 hG, ↓gq_129_1 hG, ↓gq_129_2 hG, ↓gq_129_3 hG, ↓gq_129_7 hG, ↓gq_129_10 hG, ↓gq_129_11 hG, ↓gq_129_12 hG, ↓gq_129_13 hG, ↓gq_129_19 hG, ↓gq_129_21 hG, ↓gq_129_22 hG, ↓gq_129_23 hG, ↓gq_129_24 hG, ↓gq_129_25 hG, ↓gq_129_26 hG, ↓gq_129_28 hG, ↓gq_129_29 hG, ↓gq_129_33 hG, ↓gq_129_34 hG, ↓gq_129_35 hG, ↓gq_129_36 hG, g_129_0 hG, g_129_1 hG, g_129_2 hG, g_129_3 hG, g_129_7 hG, g_129_10 hG, g_129_11 hG, g_129_12 hG, g_129_13 hG, g_129_19 hG, g_129_21 hG, g_129_22 hG, g_129_23 hG, g_129_24 hG, g_129_25 hG, g_129_26 hG, g_129_28 hG, g_129_29 hG, g_129_33 hG, g_129_34 hG, g_129_35 hG, g_129_36 hG]
        exact hh
      · have e : zsm F (n + 1) = zsm F n := by simp only [zsm]; rw [hF, zb_f hq, Int.add_zero]
        rw [e] at hh
        simp (disch := omega) only [h2, ↓(vq_129 e6), hup, zw32_id, ↓zcall_ok, zcall_ok, ↓zjn_ok, zjn_ok, ↓zbl_0, zbl_0, ↓zbl_1, zbl_1, ↓if_pos, if_pos, ↓if_neg, if_neg, ↓zb_ite, zb_ite, ↓zb_itn, zb_itn, ↓gf_129, gf_129, ↓pf_129, pf_129, ↓vc_129, vc_129, if_true, if_false, not_true_eq_false, not_false_eq_true, zu_eq, zu_a, zu_j, ge_iff_le, gt_iff_lt, ne_eq, Int.cast_ofNat_Int, Int.add_zero, Int.zero_add, Int.reduceAdd, Int.reduceSub, Int.reduceMul, Int.reduceNeg, ↓gq_129_0 hG, ↓gq_129_1 hG, ↓gq_129_2 hG, ↓gq_129_3 hG, ↓gq_129_7 hG, ↓gq_129_10 hG, ↓gq_129_11 hG, ↓gq_129_12 hG, ↓gq_129_13 hG, ↓gq_129_19 hG, ↓gq_129_21 hG, ↓gq_129_22 hG, ↓gq_129_23 hG, ↓gq_129_24 hG, ↓gq_129_25 hG, ↓gq_129_26 hG, ↓gq_129_28 hG, ↓gq_129_29 hG, ↓gq_129_33 hG, ↓gq_129_34 hG, ↓gq_129_35 hG, ↓gq_129_36 hG, g_129_0 hG, g_129_1 hG, g_129_2 hG, g_129_3 hG, g_129_7 hG, g_129_10 hG, g_129_11 hG, g_129_12 hG, g_129_13 hG, g_129_19 hG, g_129_21 hG, g_129_22 hG, g_129_23 hG, g_129_24 hG, g_129_25 hG, g_129_26 hG, g_129_28 hG, g_129_29 hG, g_129_33 hG, g_129_34 hG, g_129_35 hG, g_129_36 hG]
        exact hh
