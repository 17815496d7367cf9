theorem zG0_up {μ : zMem} (h : zG0 μ) {a0 j0 v : Int} (hn : zrfs a0 j0 = false) : zG0 (zupd μ a0 j0 v) := zG0_keep h (fun a j hr => by
  unfold zupd
  rw [if_neg]
  rintro ⟨rfl, rfl⟩
  rw [hn] at hr
  cases hr)
theorem p8u {μ : zMem} {w i v x y : Int} : zupd μ (8 + w) i v (8 + x) y = if x = w ∧ y = i then v else μ (8 + x) y := by
  unfold zupd
  by_cases h : x = w ∧ y = i
  · rw [if_pos (by omega), if_pos h]
  · rw [if_neg (by omega), if_neg h]
theorem p130u {μ : zMem} {q v y : Int} : zupd μ 130 q v 130 y = if y = q then v else μ 130 y := by
  unfold zupd
  by_cases h : y = q
  · rw [if_pos (by omega), if_pos h]
  · rw [if_neg (by omega), if_neg h]
/-- behind undo and redo alike -/
theorem zstp2 {μ ν : zMem} (hS : zGS μ) (hH : zGH μ) {w i b d : Int} (hi : 0 ≤ i ∧ i < μ 6 1) (hw : 0 ≤ w ∧ w < 4) (hf : zfit w b) (hd : 0 ≤ d ∧ d ≤ μ 12 2) (ha : zagr [201, 500, 1100, 1105] μ ν) (e1 : ν 12 1 = d) (e2 : ν 129 5 = d)
    (e3 : ∀ x y : Int, 0 ≤ x → x < 4 → ν (8 + x) y = if x = w ∧ y = i then b else μ (8 + x) y) (e4 : ∀ y : Int, ν 130 y = if y = 16 * w + i then b else μ 130 y) : zGS ν ∧ zGH ν ∧ ν 6 1 = μ 6 1 := by
  obtain ⟨h0, h1, h2, h3, h4⟩ := hS
  obtain ⟨k0, k1, k2, k3, k4, k5⟩ := hH
  have q6 : ν 6 1 = μ 6 1 := zag ha tf_6_1
  refine ⟨⟨by omega, by omega, ?_, fun x y a b c d => ?_, fun x y a b c d => ?_⟩, ⟨by omega, ?_, ?_, by omega, ?_, fun k hk0 hk => ?_⟩, q6⟩
  · rw [q6, zag ha tf_129_6]; exact h2
  · rw [e3 x y a b, e4]
    by_cases hxy : x = w ∧ y = i
    · rw [if_pos (by omega), if_pos hxy]
    · rw [if_neg (by omega), if_neg hxy]
      exact h3 x y a b c d
  · rw [e3 x y a b]
    by_cases hxy : x = w ∧ y = i
    · rw [if_pos hxy, hxy.1]; exact hf
    · rw [if_neg hxy]
      exact h4 x y a b c (by omega)
  · rw [zag ha tf_12_2]; omega
  · rw [zag ha tf_12_2]; omega
  · rw [zag ha tf_12_2, zag ha tf_129_4]; exact k4
  · rw [zag ha tf_12_2] at hk
    rw [zag ha (tg_14 k), zag ha (tg_15 k), zag ha (tg_16 k), zag ha (tg_17 k), zag ha (tg_131 k), zag ha (tg_132 k), zag ha (tg_133 k), q6]
    exact k5 k hk0 hk
theorem op_undo {μ : zMem} (hG : zG0 μ) (hS : zGS μ) (hH : zGH μ) : ∃ r μ1 μ2, fX10_undo 5 μ = some (r, μ1) ∧ fX11_undo 129 μ1 = some (r, μ2) ∧ zGS μ2 ∧ zGH μ2 ∧ μ2 6 1 = μ 6 1 := by
  have hHc := hH
  obtain ⟨k0, k1, k2, k3, k4, k5⟩ := hHc
  have hN := hS.2.1
  by_cases h0 : μ 12 1 = 0
  · refine ⟨-5, μ, μ, ?_, ?_, hS, hH, rfl⟩
    · unfold fX10_undo fX2_stepBack
      simp (disch := omega) only [if_true, if_false, not_true_eq_false, not_false_eq_true, zcall_ok, zjn_ok, zbl_0, zbl_1, zu_eq, zu_a, zu_j, if_pos, if_neg, ge_iff_le, gt_iff_lt, ne_eq, Int.cast_ofNat_Int, Int.add_zero, Int.zero_add, Int.reduceAdd, Int.reduceSub, Int.reduceMul, Int.reduceNeg, gf_5, pf_5, vc_5, gf_6, pf_6, vc_6, gf_12, pf_12, vc_12, g_5_0 hG, g_5_1 hG, g_5_2 hG, g_5_3 hG, g_5_4 hG, g_5_5 hG, g_5_6 hG, g_6_0 hG, g_12_0 hG]
    · unfold fX11_undo
      simp (disch := omega) only [if_true, if_false, not_true_eq_false, not_false_eq_true, zcall_ok, zjn_ok, zbl_0, zbl_1, zu_eq, zu_a, zu_j, if_pos, if_neg, ge_iff_le, gt_iff_lt, ne_eq, Int.cast_ofNat_Int, Int.add_zero, Int.zero_add, Int.reduceAdd, Int.reduceSub, Int.reduceMul, Int.reduceNeg, gf_129, pf_129, vc_129, g_129_0 hG, g_129_1 hG, g_129_2 hG, g_129_3 hG, g_129_7 hG, g_129_10 hG, g_129_11 hG, g_129_12 hG, g_129_13 hG, g_129_19 hG, g_129_21 hG, g_129_22 hG, g_129_23 hG, g_129_24 hG, g_129_25 hG, g_129_26 hG, g_129_28 hG, g_129_29 hG, g_129_33 hG, g_129_34 hG, g_129_35 hG, g_129_36 hG]
  · have k := k5 (μ 12 1 - 1) (by omega) (by omega)
    obtain ⟨ka, kb, kc, kd, ke, kf, kg⟩ := k
    have hG1 : zG0 (zupd μ 12 1 (μ 12 1 - 1)) := zG0_up hG rfl
    have ec := s5_change (i := μ 14 (μ 12 1 - 1)) (w := μ 15 (μ 12 1 - 1)) (v := μ 16 (μ 12 1 - 1)) hG1 (by simp (disch := omega) only [if_true, if_false, not_true_eq_false, not_false_eq_true, zcall_ok, zjn_ok, zbl_0, zbl_1, zu_eq, zu_a, zu_j, if_pos, if_neg, ge_iff_le, gt_iff_lt, ne_eq, Int.cast_ofNat_Int, Int.add_zero, Int.zero_add, Int.reduceAdd, Int.reduceSub, Int.reduceMul, Int.reduceNeg, gf_6, pf_6, vc_6]; exact hN) (by simp (disch := omega) only [if_true, if_false, not_true_eq_false, not_false_eq_true, zcall_ok, zjn_ok, zbl_0, zbl_1, zu_eq, zu_a, zu_j, if_pos, if_neg, ge_iff_le, gt_iff_lt, ne_eq, Int.cast_ofNat_Int, Int.add_zero, Int.zero_add, Int.reduceAdd, Int.reduceSub, Int.reduceMul, Int.reduceNeg, gf_6, pf_6, vc_6]; exact ka) kb kc
    have e10 : fX10_undo 5 μ = some (μ 12 1 - 1, zupd (zupd μ 12 1 (μ 12 1 - 1)) (8 + μ 15 (μ 12 1 - 1)) (μ 14 (μ 12 1 - 1)) (μ 16 (μ 12 1 - 1))) := by
      unfold fX10_undo fX2_stepBack fX2_done
      simp (disch := omega) only [zw32_id, ec, if_true, if_false, not_true_eq_false, not_false_eq_true, zcall_ok, zjn_ok, zbl_0, zbl_1, zu_eq, zu_a, zu_j, if_pos, if_neg, ge_iff_le, gt_iff_lt, ne_eq, Int.cast_ofNat_Int, Int.add_zero, Int.zero_add, Int.reduceAdd, Int.reduceSub, Int.reduceMul, Int.reduceNeg, gf_5, pf_5, vc_5, gf_6, pf_6, vc_6, gf_12, pf_12, vc_12, al_13, ln_13, al_14, as_14, ln_14, al_15, as_15, ln_15, al_16, as_16, ln_16, al_17, as_17, ln_17, g_5_0 hG, g_5_1 hG, g_5_2 hG, g_5_3 hG, g_5_4 hG, g_5_5 hG, g_5_6 hG, g_6_0 hG, g_12_0 hG, g_13_0 hG, g_13_1 hG, g_13_2 hG, g_13_3 hG]
    refine ⟨_, _, zupd (zupd (zupd (zupd μ 12 1 (μ 12 1 - 1)) (8 + μ 15 (μ 12 1 - 1)) (μ 14 (μ 12 1 - 1)) (μ 16 (μ 12 1 - 1))) 129 5 (μ 12 1 - 1)) 130 (16 * μ 15 (μ 12 1 - 1) + μ 14 (μ 12 1 - 1)) (μ 16 (μ 12 1 - 1)), e10, ?_, ?_⟩
    · unfold fX11_undo
      simp (disch := omega) only [zw32_id, k3, ke, kf, if_true, if_false, not_true_eq_false, not_false_eq_true, zcall_ok, zjn_ok, zbl_0, zbl_1, zu_eq, zu_a, zu_j, if_pos, if_neg, ge_iff_le, gt_iff_lt, ne_eq, Int.cast_ofNat_Int, Int.add_zero, Int.zero_add, Int.reduceAdd, Int.reduceSub, Int.reduceMul, Int.reduceNeg, gf_129, pf_129, vc_129, al_130, as_130, ln_130, al_131, as_131, ln_131, al_132, as_132, ln_132, al_133, as_133, ln_133, g_129_0 hG, g_129_1 hG, g_129_2 hG, g_129_3 hG, g_129_7 hG, g_129_10 hG, g_129_11 hG, g_129_12 hG, g_129_13 hG, g_129_19 hG, g_129_21 hG, g_129_22 hG, g_129_23 hG, g_129_24 hG, g_129_25 hG, g_129_26 hG, g_129_28 hG, g_129_29 hG, g_129_33 hG, g_129_34 hG, g_129_35 hG, g_129_36 hG]
    · refine zstp2 hS hH ka kb kc (d := μ 12 1 - 1) (by omega) (fun a j hq => ?_) ?_ ?_ (fun x y hx0 hx4 => ?_) (fun y => ?_)
      · have q : ∀ a0 j0 : Int, ztag a0 j0 ∈ [201, 500, 1100, 1105] → ¬ (a = a0 ∧ j = j0) := fun a0 j0 hm he => hq (by rw [he.1, he.2]; exact hm)
        unfold zupd
        rw [if_neg (q 130 _ (by rw [tg_130]; decide)), if_neg (q 129 5 (by rw [tf_129_5]; decide)), if_neg (q _ _ (by rw [tg8 kb.1 kb.2]; decide)), if_neg (q 12 1 (by rw [tf_12_1]; decide))]
      · simp (disch := omega) only [if_true, if_false, not_true_eq_false, not_false_eq_true, zcall_ok, zjn_ok, zbl_0, zbl_1, zu_eq, zu_a, zu_j, if_pos, if_neg, ge_iff_le, gt_iff_lt, ne_eq, Int.cast_ofNat_Int, Int.add_zero, Int.zero_add, Int.reduceAdd, Int.reduceSub, Int.reduceMul, Int.reduceNeg, gf_6, pf_6, vc_6]
      · simp (disch := omega) only [if_true, if_false, not_true_eq_false, not_false_eq_true, zcall_ok, zjn_ok, zbl_0, zbl_1, zu_eq, zu_a, zu_j, if_pos, if_neg, ge_iff_le, gt_iff_lt, ne_eq, Int.cast_ofNat_Int, Int.add_zero, Int.zero_add, Int.reduceAdd, Int.reduceSub, Int.reduceMul, Int.reduceNeg, gf_6, pf_6, vc_6]
      · simp (disch := omega) only [p8u, if_true, if_false, not_true_eq_false, not_false_eq_true, zcall_ok, zjn_ok, zbl_0, zbl_1, zu_eq, zu_a, zu_j, if_pos, if_neg, ge_iff_le, gt_iff_lt, ne_eq, Int.cast_ofNat_Int, Int.add_zero, Int.zero_add, Int.reduceAdd, Int.reduceSub, Int.reduceMul, Int.reduceNeg, gf_6, pf_6, vc_6]
      · rw [p130u]
        simp (disch := omega) only [if_true, if_false, not_true_eq_false, not_false_eq_true, zcall_ok, zjn_ok, zbl_0, zbl_1, zu_eq, zu_a, zu_j, if_pos, if_neg, ge_iff_le, gt_iff_lt, ne_eq, Int.cast_ofNat_Int, Int.add_zero, Int.zero_add, Int.reduceAdd, Int.reduceSub, Int.reduceMul, Int.reduceNeg, gf_6, pf_6, vc_6]
theorem op_redo {μ : zMem} (hG : zG0 μ) (hS : zGS μ) (hH : zGH μ) : ∃ r μ1 μ2, fX10_redo 5 μ = some (r, μ1) ∧ fX11_redo 129 μ1 = some (r, μ2) ∧ zGS μ2 ∧ zGH μ2 ∧ μ2 6 1 = μ 6 1 := by
  have hHc := hH
  obtain ⟨k0, k1, k2, k3, k4, k5⟩ := hHc
  have hN := hS.2.1
  by_cases h0 : μ 12 1 = μ 12 2
  · refine ⟨-5, μ, μ, ?_, ?_, hS, hH, rfl⟩
    · unfold fX10_redo fX2_stepOn
      simp (disch := omega) only [if_true, if_false, not_true_eq_false, not_false_eq_true, zcall_ok, zjn_ok, zbl_0, zbl_1, zu_eq, zu_a, zu_j, if_pos, if_neg, ge_iff_le, gt_iff_lt, ne_eq, Int.cast_ofNat_Int, Int.add_zero, Int.zero_add, Int.reduceAdd, Int.reduceSub, Int.reduceMul, Int.reduceNeg, gf_5, pf_5, vc_5, gf_6, pf_6, vc_6, gf_12, pf_12, vc_12, g_5_0 hG, g_5_1 hG, g_5_2 hG, g_5_3 hG, g_5_4 hG, g_5_5 hG, g_5_6 hG, g_6_0 hG, g_12_0 hG]
    · unfold fX11_redo
      simp (disch := omega) only [if_true, if_false, not_true_eq_false, not_false_eq_true, zcall_ok, zjn_ok, zbl_0, zbl_1, zu_eq, zu_a, zu_j, if_pos, if_neg, ge_iff_le, gt_iff_lt, ne_eq, Int.cast_ofNat_Int, Int.add_zero, Int.zero_add, Int.reduceAdd, Int.reduceSub, Int.reduceMul, Int.reduceNeg, gf_129, pf_129, vc_129, g_129_0 hG, g_129_1 hG, g_129_2 hG, g_129_3 hG, g_129_7 hG, g_129_10 hG, g_129_11 hG, g_129_12 hG, g_129_13 hG, g_129_19 hG, g_129_21 hG, g_129_22 hG, g_129_23 hG, g_129_24 hG, g_129_25 hG, g_129_26 hG, g_129_28 hG, g_129_29 hG, g_129_33 hG, g_129_34 hG, g_129_35 hG, g_129_36 hG]
  · have k := k5 (μ 12 1) (by omega) (by omega)
    obtain ⟨ka, kb, kc, kd, ke, kf, kg⟩ := k
    have ec := s5_change (i := μ 14 (μ 12 1)) (w := μ 15 (μ 12 1)) (v := μ 17 (μ 12 1)) hG hN ka kb kd
    have e10 : fX10_redo 5 μ = some (μ 12 2 - (μ 12 1 + 1), zupd (zupd μ (8 + μ 15 (μ 12 1)) (μ 14 (μ 12 1)) (μ 17 (μ 12 1))) 12 1 (μ 12 1 + 1)) := by
      unfold fX10_redo fX2_stepOn fX2_undone
      simp (disch := omega) only [zw32_id, ec, if_true, if_false, not_true_eq_false, not_false_eq_true, zcall_ok, zjn_ok, zbl_0, zbl_1, zu_eq, zu_a, zu_j, if_pos, if_neg, ge_iff_le, gt_iff_lt, ne_eq, Int.cast_ofNat_Int, Int.add_zero, Int.zero_add, Int.reduceAdd, Int.reduceSub, Int.reduceMul, Int.reduceNeg, gf_5, pf_5, vc_5, gf_6, pf_6, vc_6, gf_12, pf_12, vc_12, al_13, ln_13, al_14, as_14, ln_14, al_15, as_15, ln_15, al_16, as_16, ln_16, al_17, as_17, ln_17, g_5_0 hG, g_5_1 hG, g_5_2 hG, g_5_3 hG, g_5_4 hG, g_5_5 hG, g_5_6 hG, g_6_0 hG, g_12_0 hG, g_13_0 hG, g_13_1 hG, g_13_2 hG, g_13_3 hG]
    refine ⟨_, _, zupd (zupd (zupd (zupd μ (8 + μ 15 (μ 12 1)) (μ 14 (μ 12 1)) (μ 17 (μ 12 1))) 12 1 (μ 12 1 + 1)) 130 (16 * μ 15 (μ 12 1) + μ 14 (μ 12 1)) (μ 17 (μ 12 1))) 129 5 (μ 12 1 + 1), e10, ?_, ?_⟩
    · unfold fX11_redo
      simp (disch := omega) only [zw32_id, k3, k4, ke, kg, if_true, if_false, not_true_eq_false, not_false_eq_true, zcall_ok, zjn_ok, zbl_0, zbl_1, zu_eq, zu_a, zu_j, if_pos, if_neg, ge_iff_le, gt_iff_lt, ne_eq, Int.cast_ofNat_Int, Int.add_zero, Int.zero_add, Int.reduceAdd, Int.reduceSub, Int.reduceMul, Int.reduceNeg, gf_129, pf_129, vc_129, al_130, as_130, ln_130, al_131, as_131, ln_131, al_132, as_132, ln_132, al_133, as_133, ln_133, g_129_0 hG, g_129_1 hG, g_129_2 hG, g_129_3 hG, g_129_7 hG, g_129_10 hG, g_129_11 hG, g_129_12 hG, g_129_13 hG, g_129_19 hG, g_129_21 hG, g_129_22 hG, g_129_23 hG, g_129_24 hG, g_129_25 hG, g_129_26 hG, g_129_28 hG, g_129_29 hG, g_129_33 hG, g_129_34 hG, g_129_35 hG, g_129_36 hG]
    · refine zstp2 hS hH ka kb kd (d := μ 12 1 + 1) (by omega) (fun a j hq => ?_) ?_ ?_ (fun x y hx0 hx4 => ?_) (fun y => ?_)
      · have q : ∀ a0 j0 : Int, ztag a0 j0 ∈ [201, 500, 1100, 1105] → ¬ (a = a0 ∧ j = j0) := fun a0 j0 hm he => hq (by rw [he.1, he.2]; exact hm)
        unfold zupd
        rw [if_neg (q 129 5 (by rw [tf_129_5]; decide)), if_neg (q 130 _ (by rw [tg_130]; decide)), if_neg (q 12 1 (by rw [tf_12_1]; decide)), if_neg (q _ _ (by rw [tg8 kb.1 kb.2]; decide))]
      · simp (disch := omega) only [if_true, if_false, not_true_eq_false, not_false_eq_true, zcall_ok, zjn_ok, zbl_0, zbl_1, zu_eq, zu_a, zu_j, if_pos, if_neg, ge_iff_le, gt_iff_lt, ne_eq, Int.cast_ofNat_Int, Int.add_zero, Int.zero_add, Int.reduceAdd, Int.reduceSub, Int.reduceMul, Int.reduceNeg, gf_6, pf_6, vc_6]
      · simp (disch := omega) only [if_true, if_false, not_true_eq_false, not_false_eq_true, zcall_ok, zjn_ok, zbl_0, zbl_1, zu_eq, zu_a, zu_j, if_pos, if_neg, ge_iff_le, gt_iff_lt, ne_eq, Int.cast_ofNat_Int, Int.add_zero, Int.zero_add, Int.reduceAdd, Int.reduceSub, Int.reduceMul, Int.reduceNeg, gf_6, pf_6, vc_6]
      · simp (disch := omega) only [p8u, if_true, if_false, not_true_eq_false, not_false_eq_true, zcall_ok, zjn_ok, zbl_0, zbl_1, zu_eq, zu_a, zu_j, if_pos, if_neg, ge_iff_le, gt_iff_lt, ne_eq, Int.cast_ofNat_Int, Int.add_zero, Int.zero_add, Int.reduceAdd, Int.reduceSub, Int.reduceMul, Int.reduceNeg, gf_6, pf_6, vc_6]
      · simp (disch := omega) only [p130u, if_true, if_false, not_true_eq_false, not_false_eq_true, zcall_ok, zjn_ok, zbl_0, zbl_1, zu_eq, zu_a, zu_j, if_pos, if_neg, ge_iff_le, gt_iff_lt, ne_eq, Int.cast_ofNat_Int, Int.add_zero, Int.zero_add, Int.reduceAdd, Int.reduceSub, Int.reduceMul, Int.reduceNeg, gf_6, pf_6, vc_6]
