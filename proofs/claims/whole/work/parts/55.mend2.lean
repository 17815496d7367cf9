/-- the reference's changes, a place back from the first on, below v -/
def zsh (μ : zMem) (v : Int) : zMem := fun a j => if (a = 131 ∨ a = 132 ∨ a = 133) ∧ 0 ≤ j ∧ j < v - 1 then μ a (j + 1) else μ a j
theorem zsh_o {μ : zMem} {v a j : Int} (h : ¬ (a = 131 ∨ a = 132 ∨ a = 133)) : zsh μ v a j = μ a j := by unfold zsh; rw [if_neg (fun q => h q.1)]
theorem zsh_s {μ : zMem} {v : Int} (h1 : 1 ≤ v) : zupd (zupd (zupd (zsh μ v) 131 (v - 1) (μ 131 v)) 132 (v - 1) (μ 132 v)) 133 (v - 1) (μ 133 v) = zsh μ (v + 1) := by
  funext a j
  unfold zupd zsh
  by_cases hj : j = v - 1
  · subst hj
    by_cases h133 : a = 133
    · subst h133; simp; intro; omega
    · by_cases h132 : a = 132
      · subst h132; simp; intro; omega
      · by_cases h131 : a = 131
        · subst h131; simp; intro; omega
        · simp [h133, h132, h131]
  · rw [if_neg (fun q => hj q.2), if_neg (fun q => hj q.2), if_neg (fun q => hj q.2)]
    have : (0 ≤ j ∧ j < v - 1) ↔ (0 ≤ j ∧ j < v + 1 - 1) := by omega
    simp only [this]
theorem s11_becomes {μ : zMem} (hG : zG0 μ) (h0 : 0 ≤ μ 129 5) (h1 : μ 129 5 ≤ 40) {at_ v : Int} (ha : 0 ≤ at_ ∧ at_ < 64) :
    (μ 130 at_ = v → fX11_becomes 129 at_ v μ = some (v, μ)) ∧ (μ 130 at_ ≠ v → ∃ μ1, fX11_becomes 129 at_ v μ = some (μ 130 at_, μ1) ∧ μ1 129 5 = (if μ 129 5 < 40 then μ 129 5 else 39) + 1 ∧ μ1 129 4 = (if μ 129 5 < 40 then μ 129 5 else 39) + 1 ∧
      (∀ r k : Int, 131 ≤ r → r ≤ 133 → 0 ≤ k → k < (if μ 129 5 < 40 then μ 129 5 else 39) → μ1 r k = μ r (k + if μ 129 5 < 40 then 0 else 1)) ∧ μ1 131 (if μ 129 5 < 40 then μ 129 5 else 39) = at_ ∧ μ1 132 (if μ 129 5 < 40 then μ 129 5 else 39) = μ 130 at_ ∧ μ1 133 (if μ 129 5 < 40 then μ 129 5 else 39) = v ∧ (∀ j : Int, μ1 130 j = if j = at_ then v else μ 130 j)) := by
  unfold fX11_becomes
  refine ⟨fun h => ?_, fun h => ?_⟩
  · simp (disch := omega) only [if_true, if_false, not_true_eq_false, not_false_eq_true, zcall_ok, zjn_ok, zbl_0, zbl_1, zu_eq, zu_a, zu_j, if_pos, if_neg, ge_iff_le, gt_iff_lt, ne_eq, Int.cast_ofNat_Int, Int.add_zero, Int.zero_add, Int.reduceAdd, Int.reduceSub, Int.reduceMul, Int.reduceNeg, gf_129, pf_129, vc_129, al_130, as_130, ln_130, g_129_0 hG, g_129_1 hG, g_129_2 hG, g_129_3 hG, g_129_7 hG, g_129_10 hG, g_129_11 hG, g_129_12 hG, g_129_13 hG, g_129_19 hG, g_129_21 hG, g_129_22 hG, g_129_23 hG, g_129_24 hG, g_129_25 hG, g_129_26 hG, g_129_28 hG, g_129_29 hG, g_129_33 hG, g_129_34 hG, g_129_35 hG, g_129_36 hG]
    rw [h]
  · by_cases hd : μ 129 5 < 40
    · simp only [if_pos hd]
      refine ⟨zupd (zupd (zupd (zupd (zupd (zupd μ 131 (μ 129 5) at_) 132 (μ 129 5) (μ 130 at_)) 133 (μ 129 5) v) 129 5 (μ 129 5 + 1)) 129 4 (μ 129 5 + 1)) 130 at_ v, ?_, ?_, ?_, ?_, ?_, ?_, ?_, ?_⟩
      · simp (disch := omega) only [zw32_id, if_pos h, if_true, if_false, not_true_eq_false, not_false_eq_true, zcall_ok, zjn_ok, zbl_0, zbl_1, zu_eq, zu_a, zu_j, if_pos, if_neg, ge_iff_le, gt_iff_lt, ne_eq, Int.cast_ofNat_Int, Int.add_zero, Int.zero_add, Int.reduceAdd, Int.reduceSub, Int.reduceMul, Int.reduceNeg, gf_129, pf_129, vc_129, al_130, as_130, ln_130, al_131, as_131, ln_131, al_132, as_132, ln_132, al_133, as_133, ln_133, g_129_0 hG, g_129_1 hG, g_129_2 hG, g_129_3 hG, g_129_7 hG, g_129_10 hG, g_129_11 hG, g_129_12 hG, g_129_13 hG, g_129_19 hG, g_129_21 hG, g_129_22 hG, g_129_23 hG, g_129_24 hG, g_129_25 hG, g_129_26 hG, g_129_28 hG, g_129_29 hG, g_129_33 hG, g_129_34 hG, g_129_35 hG, g_129_36 hG]
      · simp (disch := omega) only [if_true, if_false, not_true_eq_false, not_false_eq_true, zcall_ok, zjn_ok, zbl_0, zbl_1, zu_eq, zu_a, zu_j, if_pos, if_neg, ge_iff_le, gt_iff_lt, ne_eq, Int.cast_ofNat_Int, Int.add_zero, Int.zero_add, Int.reduceAdd, Int.reduceSub, Int.reduceMul, Int.reduceNeg, gf_12, pf_12, vc_12, g_12_0 hG]
      · simp (disch := omega) only [if_true, if_false, not_true_eq_false, not_false_eq_true, zcall_ok, zjn_ok, zbl_0, zbl_1, zu_eq, zu_a, zu_j, if_pos, if_neg, ge_iff_le, gt_iff_lt, ne_eq, Int.cast_ofNat_Int, Int.add_zero, Int.zero_add, Int.reduceAdd, Int.reduceSub, Int.reduceMul, Int.reduceNeg, gf_12, pf_12, vc_12, g_12_0 hG]
      · intro r k h131 h133 hk0 hk
        rw [Int.add_zero]
        simp (disch := omega) only [if_true, if_false, not_true_eq_false, not_false_eq_true, zcall_ok, zjn_ok, zbl_0, zbl_1, zu_eq, zu_a, zu_j, if_pos, if_neg, ge_iff_le, gt_iff_lt, ne_eq, Int.cast_ofNat_Int, Int.add_zero, Int.zero_add, Int.reduceAdd, Int.reduceSub, Int.reduceMul, Int.reduceNeg, gf_12, pf_12, vc_12, g_12_0 hG]
      · simp (disch := omega) only [if_true, if_false, not_true_eq_false, not_false_eq_true, zcall_ok, zjn_ok, zbl_0, zbl_1, zu_eq, zu_a, zu_j, if_pos, if_neg, ge_iff_le, gt_iff_lt, ne_eq, Int.cast_ofNat_Int, Int.add_zero, Int.zero_add, Int.reduceAdd, Int.reduceSub, Int.reduceMul, Int.reduceNeg, gf_12, pf_12, vc_12, g_12_0 hG]
      · simp (disch := omega) only [if_true, if_false, not_true_eq_false, not_false_eq_true, zcall_ok, zjn_ok, zbl_0, zbl_1, zu_eq, zu_a, zu_j, if_pos, if_neg, ge_iff_le, gt_iff_lt, ne_eq, Int.cast_ofNat_Int, Int.add_zero, Int.zero_add, Int.reduceAdd, Int.reduceSub, Int.reduceMul, Int.reduceNeg, gf_12, pf_12, vc_12, g_12_0 hG]
      · simp (disch := omega) only [if_true, if_false, not_true_eq_false, not_false_eq_true, zcall_ok, zjn_ok, zbl_0, zbl_1, zu_eq, zu_a, zu_j, if_pos, if_neg, ge_iff_le, gt_iff_lt, ne_eq, Int.cast_ofNat_Int, Int.add_zero, Int.zero_add, Int.reduceAdd, Int.reduceSub, Int.reduceMul, Int.reduceNeg, gf_12, pf_12, vc_12, g_12_0 hG]
      · intro j
        by_cases hj : j = at_
        · subst hj; rw [zu_eq, if_pos rfl]
        · rw [if_neg hj]
          simp (disch := omega) only [if_true, if_false, not_true_eq_false, not_false_eq_true, zcall_ok, zjn_ok, zbl_0, zbl_1, zu_eq, zu_a, zu_j, if_pos, if_neg, ge_iff_le, gt_iff_lt, ne_eq, Int.cast_ofNat_Int, Int.add_zero, Int.zero_add, Int.reduceAdd, Int.reduceSub, Int.reduceMul, Int.reduceNeg, gf_12, pf_12, vc_12, g_12_0 hG]
    · simp only [if_neg hd]
      refine ⟨zupd (zupd (zupd (zupd (zupd (zupd (zupd (zsh μ 40) 129 5 39) 131 39 at_) 132 39 (μ 130 at_)) 133 39 v) 129 5 40) 129 4 40) 130 at_ v, ?_, ?_, ?_, ?_, ?_, ?_, ?_, ?_⟩
      · simp (disch := omega) only [if_pos h, if_true, if_false, not_true_eq_false, not_false_eq_true, zcall_ok, zjn_ok, zbl_0, zbl_1, zu_eq, zu_a, zu_j, if_pos, if_neg, ge_iff_le, gt_iff_lt, ne_eq, Int.cast_ofNat_Int, Int.add_zero, Int.zero_add, Int.reduceAdd, Int.reduceSub, Int.reduceMul, Int.reduceNeg, gf_129, pf_129, vc_129, al_130, as_130, ln_130, g_129_0 hG, g_129_1 hG, g_129_2 hG, g_129_3 hG, g_129_7 hG, g_129_10 hG, g_129_11 hG, g_129_12 hG, g_129_13 hG, g_129_19 hG, g_129_21 hG, g_129_22 hG, g_129_23 hG, g_129_24 hG, g_129_25 hG, g_129_26 hG, g_129_28 hG, g_129_29 hG, g_129_33 hG, g_129_34 hG, g_129_35 hG, g_129_36 hG]
        refine zlp_meas (fun k (f : Int → zMem → zRs) => ∀ (x : Int) (u : zMem), 1 ≤ x → x ≤ 40 → 40 - x < k → u = zsh μ x → f x u = some (μ 130 at_, zupd (zupd (zupd (zupd (zupd (zupd (zupd (zsh μ 40) 129 5 39) 131 39 at_) 132 39 (μ 130 at_)) 133 39 v) 129 5 40) 129 4 40) 130 at_ v)) ?_ ?_ 1000000 1 μ (by omega) (by omega) (by omega) ?_
        · intro x u h1 h2 h3
          omega
        · intro k f ih x u h1 h2 h3 hu
          subst hu
          by_cases hx : x = 40
          · subst hx
            simp (disch := omega) only [zsh_o, zw32_id, if_true, if_false, not_true_eq_false, not_false_eq_true, zcall_ok, zjn_ok, zbl_0, zbl_1, zu_eq, zu_a, zu_j, if_pos, if_neg, ge_iff_le, gt_iff_lt, ne_eq, Int.cast_ofNat_Int, Int.add_zero, Int.zero_add, Int.reduceAdd, Int.reduceSub, Int.reduceMul, Int.reduceNeg, gf_129, pf_129, vc_129, al_130, as_130, ln_130, al_131, as_131, ln_131, al_132, as_132, ln_132, al_133, as_133, ln_133, g_129_0 hG, g_129_1 hG, g_129_2 hG, g_129_3 hG, g_129_7 hG, g_129_10 hG, g_129_11 hG, g_129_12 hG, g_129_13 hG, g_129_19 hG, g_129_21 hG, g_129_22 hG, g_129_23 hG, g_129_24 hG, g_129_25 hG, g_129_26 hG, g_129_28 hG, g_129_29 hG, g_129_33 hG, g_129_34 hG, g_129_35 hG, g_129_36 hG]
            rw [show μ 129 5 - 1 = 39 by omega]
            simp (disch := omega) only [zsh_o, zw32_id, if_true, if_false, not_true_eq_false, not_false_eq_true, zcall_ok, zjn_ok, zbl_0, zbl_1, zu_eq, zu_a, zu_j, if_pos, if_neg, ge_iff_le, gt_iff_lt, ne_eq, Int.cast_ofNat_Int, Int.add_zero, Int.zero_add, Int.reduceAdd, Int.reduceSub, Int.reduceMul, Int.reduceNeg, gf_129, pf_129, vc_129, al_130, as_130, ln_130, al_131, as_131, ln_131, al_132, as_132, ln_132, al_133, as_133, ln_133, g_129_0 hG, g_129_1 hG, g_129_2 hG, g_129_3 hG, g_129_7 hG, g_129_10 hG, g_129_11 hG, g_129_12 hG, g_129_13 hG, g_129_19 hG, g_129_21 hG, g_129_22 hG, g_129_23 hG, g_129_24 hG, g_129_25 hG, g_129_26 hG, g_129_28 hG, g_129_29 hG, g_129_33 hG, g_129_34 hG, g_129_35 hG, g_129_36 hG]
          · simp (disch := omega) only [zsh_o, zw32_id, if_true, if_false, not_true_eq_false, not_false_eq_true, zcall_ok, zjn_ok, zbl_0, zbl_1, zu_eq, zu_a, zu_j, if_pos, if_neg, ge_iff_le, gt_iff_lt, ne_eq, Int.cast_ofNat_Int, Int.add_zero, Int.zero_add, Int.reduceAdd, Int.reduceSub, Int.reduceMul, Int.reduceNeg, gf_129, pf_129, vc_129, al_130, as_130, ln_130, al_131, as_131, ln_131, al_132, as_132, ln_132, al_133, as_133, ln_133, g_129_0 hG, g_129_1 hG, g_129_2 hG, g_129_3 hG, g_129_7 hG, g_129_10 hG, g_129_11 hG, g_129_12 hG, g_129_13 hG, g_129_19 hG, g_129_21 hG, g_129_22 hG, g_129_23 hG, g_129_24 hG, g_129_25 hG, g_129_26 hG, g_129_28 hG, g_129_29 hG, g_129_33 hG, g_129_34 hG, g_129_35 hG, g_129_36 hG]
            have e1 : zsh μ x 131 x = μ 131 x := by unfold zsh; rw [if_neg (by omega)]
            have e2 : zsh μ x 132 x = μ 132 x := by unfold zsh; rw [if_neg (by omega)]
            have e3 : zsh μ x 133 x = μ 133 x := by unfold zsh; rw [if_neg (by omega)]
            rw [e1, e2, e3, zsh_s h1]
            exact ih (x + 1) _ (by omega) (by omega) (by omega) rfl
        · funext a j
          unfold zsh
          rw [if_neg (by omega)]
      · simp (disch := omega) only [if_true, if_false, not_true_eq_false, not_false_eq_true, zcall_ok, zjn_ok, zbl_0, zbl_1, zu_eq, zu_a, zu_j, if_pos, if_neg, ge_iff_le, gt_iff_lt, ne_eq, Int.cast_ofNat_Int, Int.add_zero, Int.zero_add, Int.reduceAdd, Int.reduceSub, Int.reduceMul, Int.reduceNeg, gf_12, pf_12, vc_12, g_12_0 hG]
      · simp (disch := omega) only [if_true, if_false, not_true_eq_false, not_false_eq_true, zcall_ok, zjn_ok, zbl_0, zbl_1, zu_eq, zu_a, zu_j, if_pos, if_neg, ge_iff_le, gt_iff_lt, ne_eq, Int.cast_ofNat_Int, Int.add_zero, Int.zero_add, Int.reduceAdd, Int.reduceSub, Int.reduceMul, Int.reduceNeg, gf_12, pf_12, vc_12, g_12_0 hG]
      · intro r k h131 h133 hk0 hk
        have : zsh μ 40 r k = μ r (k + 1) := by
          unfold zsh
          rw [if_pos (by omega)]
        simp (disch := omega) only [this, if_true, if_false, not_true_eq_false, not_false_eq_true, zcall_ok, zjn_ok, zbl_0, zbl_1, zu_eq, zu_a, zu_j, if_pos, if_neg, ge_iff_le, gt_iff_lt, ne_eq, Int.cast_ofNat_Int, Int.add_zero, Int.zero_add, Int.reduceAdd, Int.reduceSub, Int.reduceMul, Int.reduceNeg, gf_12, pf_12, vc_12, g_12_0 hG]
      · simp (disch := omega) only [if_true, if_false, not_true_eq_false, not_false_eq_true, zcall_ok, zjn_ok, zbl_0, zbl_1, zu_eq, zu_a, zu_j, if_pos, if_neg, ge_iff_le, gt_iff_lt, ne_eq, Int.cast_ofNat_Int, Int.add_zero, Int.zero_add, Int.reduceAdd, Int.reduceSub, Int.reduceMul, Int.reduceNeg, gf_12, pf_12, vc_12, g_12_0 hG]
      · simp (disch := omega) only [if_true, if_false, not_true_eq_false, not_false_eq_true, zcall_ok, zjn_ok, zbl_0, zbl_1, zu_eq, zu_a, zu_j, if_pos, if_neg, ge_iff_le, gt_iff_lt, ne_eq, Int.cast_ofNat_Int, Int.add_zero, Int.zero_add, Int.reduceAdd, Int.reduceSub, Int.reduceMul, Int.reduceNeg, gf_12, pf_12, vc_12, g_12_0 hG]
      · simp (disch := omega) only [if_true, if_false, not_true_eq_false, not_false_eq_true, zcall_ok, zjn_ok, zbl_0, zbl_1, zu_eq, zu_a, zu_j, if_pos, if_neg, ge_iff_le, gt_iff_lt, ne_eq, Int.cast_ofNat_Int, Int.add_zero, Int.zero_add, Int.reduceAdd, Int.reduceSub, Int.reduceMul, Int.reduceNeg, gf_12, pf_12, vc_12, g_12_0 hG]
      · intro j
        by_cases hj : j = at_
        · subst hj; rw [zu_eq, if_pos rfl]
        · rw [if_neg hj]
          simp (disch := omega) only [zsh_o, if_true, if_false, not_true_eq_false, not_false_eq_true, zcall_ok, zjn_ok, zbl_0, zbl_1, zu_eq, zu_a, zu_j, if_pos, if_neg, ge_iff_le, gt_iff_lt, ne_eq, Int.cast_ofNat_Int, Int.add_zero, Int.zero_add, Int.reduceAdd, Int.reduceSub, Int.reduceMul, Int.reduceNeg, gf_12, pf_12, vc_12, g_12_0 hG]
