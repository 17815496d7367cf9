/-! ===== every group, and each call keeps them (printed by program) ===== -/
def zGA (μ : zMem) : Prop := zG0 μ ∧ zGS μ ∧ zGH μ ∧ zGT μ ∧ zGB μ ∧ zGF μ ∧ zGW μ ∧ zGP μ
abbrev z32 (x : Int) : Prop := -2147483648 ≤ x ∧ x < 2147483648
set_option maxHeartbeats 4000000 in
theorem body_grows {μ μ1 : zMem} (hG : zG0 μ) (hB : zGB μ) {x r : Int} (h : fX10_body 5 x μ = some (r, μ1)) : μ 113 2 ≤ μ1 113 2 := by
  have h0 := hB.1.1
  have h1 := hB.1.2.1
  by_cases hx : 0 ≤ x ∧ x ≤ 7
  · by_cases hd : μ 113 2 = 50
    · have e : fX10_body 5 x μ = some (-3, μ) := by
        unfold fX10_body fX0_isKind fX0_admit
        simp (disch := omega) only [zw32_id, if_true, if_false, not_true_eq_false, not_false_eq_true, zcall_ok, zjn_ok, zbl_0, zbl_1, zu_eq, zu_a, zu_j, if_pos, if_neg, ge_iff_le, gt_iff_lt, ne_eq, Int.cast_ofNat_Int, Int.add_zero, Int.zero_add, Int.reduceAdd, Int.reduceSub, Int.reduceMul, Int.reduceNeg, gf_5, pf_5, vc_5, gf_113, pf_113, vc_113, g_5_0 hG, g_5_1 hG, g_5_2 hG, g_5_3 hG, g_5_4 hG, g_5_5 hG, g_5_6 hG, g_113_0 hG, g_113_1 hG]
      rw [e] at h
      cases h
      exact Int.le_refl _
    · have e : fX10_body 5 x μ = some (μ 113 2, zupd (zupd μ 114 (μ 113 2) x) 113 2 (μ 113 2 + 1)) := by
        unfold fX10_body fX0_isKind fX0_admit
        simp (disch := omega) only [zw32_id, Int.add_sub_cancel, if_true, if_false, not_true_eq_false, not_false_eq_true, zcall_ok, zjn_ok, zbl_0, zbl_1, zu_eq, zu_a, zu_j, if_pos, if_neg, ge_iff_le, gt_iff_lt, ne_eq, Int.cast_ofNat_Int, Int.add_zero, Int.zero_add, Int.reduceAdd, Int.reduceSub, Int.reduceMul, Int.reduceNeg, gf_5, pf_5, vc_5, gf_113, pf_113, vc_113, al_114, as_114, ln_114, g_5_0 hG, g_5_1 hG, g_5_2 hG, g_5_3 hG, g_5_4 hG, g_5_5 hG, g_5_6 hG, g_113_0 hG, g_113_1 hG]
      rw [e] at h
      cases h
      rw [zu_eq]
      omega
  · have e : fX10_body 5 x μ = some (-1, μ) := by
      unfold fX10_body fX0_isKind fX0_admit
      by_cases hx0 : x < 0
      · simp (disch := omega) only [if_true, if_false, not_true_eq_false, not_false_eq_true, zcall_ok, zjn_ok, zbl_0, zbl_1, zu_eq, zu_a, zu_j, if_pos, if_neg, ge_iff_le, gt_iff_lt, ne_eq, Int.cast_ofNat_Int, Int.add_zero, Int.zero_add, Int.reduceAdd, Int.reduceSub, Int.reduceMul, Int.reduceNeg, gf_5, pf_5, vc_5, gf_113, pf_113, vc_113, g_5_0 hG, g_5_1 hG, g_5_2 hG, g_5_3 hG, g_5_4 hG, g_5_5 hG, g_5_6 hG, g_113_0 hG, g_113_1 hG]
      · simp (disch := omega) only [if_true, if_false, not_true_eq_false, not_false_eq_true, zcall_ok, zjn_ok, zbl_0, zbl_1, zu_eq, zu_a, zu_j, if_pos, if_neg, ge_iff_le, gt_iff_lt, ne_eq, Int.cast_ofNat_Int, Int.add_zero, Int.zero_add, Int.reduceAdd, Int.reduceSub, Int.reduceMul, Int.reduceNeg, gf_5, pf_5, vc_5, gf_113, pf_113, vc_113, g_5_0 hG, g_5_1 hG, g_5_2 hG, g_5_3 hG, g_5_4 hG, g_5_5 hG, g_5_6 hG, g_113_0 hG, g_113_1 hG]
    rw [e] at h
    cases h
    exact Int.le_refl _
set_option maxHeartbeats 4000000 in
theorem st_saying {μ : zMem} (hA : zGA μ) (x1 x2 : Int) (b1 : z32 x1) (b2 : z32 x2) : ∃ r μ1 μ2, fX10_saying 5 x1 x2 μ = some (r, μ1) ∧ fX11_saying 129 x1 x2 μ1 = some (r, μ2) ∧ zGA μ2 := by
  obtain ⟨hG, hS, hH, hT, hB, hF, hW, hP⟩ := id hA
  obtain ⟨r, μ1, μ2, e1, e2, gS, n6⟩ := op_saying hG hS x1 x2
  have k1 := mX10_saying 5 x1 x2 μ hG zagr_refl r μ1 e1
  have k2 := mX11_saying 129 x1 x2 μ1 k1.1 zagr_refl r μ2 e2
  have n21 : μ 21 3 ≤ μ2 21 3 := Int.le_of_eq (zK2 (t := [303]) k1.2 k2.2 (by decide) 21 3 (by rw [tf_21_3]; decide)).symm
  have n113 : μ 113 2 ≤ μ2 113 2 := Int.le_of_eq (zK2 (t := [2]) k1.2 k2.2 (by decide) 113 2 (by rw [tf_113_2]; decide)).symm
  have gH := zGH_keep (μ' := μ2) hH (zK2 k1.2 k2.2) n6
  have gT := zGT_keep (μ' := μ2) hT (zK2 k1.2 k2.2)
  have gB := zGB_keep (μ' := μ2) hB (zK2 k1.2 k2.2)
  have gF := zGF_keep (μ' := μ2) hF (zK2 k1.2 k2.2) n113 gB.1.2.1
  have gW := zGW_keep (μ' := μ2) hW (zK2 k1.2 k2.2)
  have gP := zGP_keep (μ' := μ2) hP (zK2 k1.2 k2.2) n6 n21
  exact ⟨r, μ1, μ2, e1, e2, k2.1, gS, gH, gT, gB, gF, gW, gP⟩
set_option maxHeartbeats 4000000 in
theorem st_sayings {μ : zMem} (hA : zGA μ) (x1 x2 x3 : Int) (b1 : z32 x1) (b2 : z32 x2) (b3 : z32 x3) : ∃ r μ1 μ2, fX10_sayings 5 x1 x2 x3 μ = some (r, μ1) ∧ fX11_sayings 129 x1 x2 x3 μ1 = some (r, μ2) ∧ zGA μ2 := by
  obtain ⟨hG, hS, hH, hT, hB, hF, hW, hP⟩ := id hA
  obtain ⟨r, μ1, μ2, e1, e2, gS, n6⟩ := op_sayings hG hS hF (d := x1) (i := x2) (m := x3) b2
  have k1 := mX10_sayings 5 x1 x2 x3 μ hG zagr_refl r μ1 e1
  have k2 := mX11_sayings 129 x1 x2 x3 μ1 k1.1 zagr_refl r μ2 e2
  have n21 : μ 21 3 ≤ μ2 21 3 := Int.le_of_eq (zK2 (t := [303]) k1.2 k2.2 (by decide) 21 3 (by rw [tf_21_3]; decide)).symm
  have n113 : μ 113 2 ≤ μ2 113 2 := Int.le_of_eq (zK2 (t := [2]) k1.2 k2.2 (by decide) 113 2 (by rw [tf_113_2]; decide)).symm
  have gH := zGH_keep (μ' := μ2) hH (zK2 k1.2 k2.2) n6
  have gT := zGT_keep (μ' := μ2) hT (zK2 k1.2 k2.2)
  have gB := zGB_keep (μ' := μ2) hB (zK2 k1.2 k2.2)
  have gF := zGF_keep (μ' := μ2) hF (zK2 k1.2 k2.2) n113 gB.1.2.1
  have gW := zGW_keep (μ' := μ2) hW (zK2 k1.2 k2.2)
  have gP := zGP_keep (μ' := μ2) hP (zK2 k1.2 k2.2) n6 n21
  exact ⟨r, μ1, μ2, e1, e2, k2.1, gS, gH, gT, gB, gF, gW, gP⟩
set_option maxHeartbeats 4000000 in
theorem st_mend {μ : zMem} (hA : zGA μ) (x1 x2 x3 : Int) (b1 : z32 x1) (b2 : z32 x2) (b3 : z32 x3) : ∃ r μ1 μ2, fX10_mend 5 x1 x2 x3 μ = some (r, μ1) ∧ fX11_mend 129 x1 x2 x3 μ1 = some (r, μ2) ∧ zGA μ2 := by
  obtain ⟨hG, hS, hH, hT, hB, hF, hW, hP⟩ := id hA
  obtain ⟨r, μ1, μ2, e1, e2, gS, gH, n6⟩ := op_mend hG hS hH x1 x2 x3 b3
  have k1 := mX10_mend 5 x1 x2 x3 μ hG zagr_refl r μ1 e1
  have k2 := mX11_mend 129 x1 x2 x3 μ1 k1.1 zagr_refl r μ2 e2
  have n6 : μ 6 1 ≤ μ2 6 1 := Int.le_of_eq (zK2 (t := [501]) k1.2 k2.2 (by decide) 6 1 (by rw [tf_6_1]; decide)).symm
  have n21 : μ 21 3 ≤ μ2 21 3 := Int.le_of_eq (zK2 (t := [303]) k1.2 k2.2 (by decide) 21 3 (by rw [tf_21_3]; decide)).symm
  have n113 : μ 113 2 ≤ μ2 113 2 := Int.le_of_eq (zK2 (t := [2]) k1.2 k2.2 (by decide) 113 2 (by rw [tf_113_2]; decide)).symm
  have gT := zGT_keep (μ' := μ2) hT (zK2 k1.2 k2.2)
  have gB := zGB_keep (μ' := μ2) hB (zK2 k1.2 k2.2)
  have gF := zGF_keep (μ' := μ2) hF (zK2 k1.2 k2.2) n113 gB.1.2.1
  have gW := zGW_keep (μ' := μ2) hW (zK2 k1.2 k2.2)
  have gP := zGP_keep (μ' := μ2) hP (zK2 k1.2 k2.2) n6 n21
  exact ⟨r, μ1, μ2, e1, e2, k2.1, gS, gH, gT, gB, gF, gW, gP⟩
set_option maxHeartbeats 4000000 in
theorem st_of {μ : zMem} (hA : zGA μ) (x1 x2 : Int) (b1 : z32 x1) (b2 : z32 x2) : ∃ r μ1 μ2, fX10_of 5 x1 x2 μ = some (r, μ1) ∧ fX11_of 129 x1 x2 μ1 = some (r, μ2) ∧ zGA μ2 := by
  obtain ⟨hG, hS, hH, hT, hB, hF, hW, hP⟩ := id hA
  obtain ⟨r, e1, e2⟩ := op_of hG hS x1 x2
  exact ⟨r, μ, μ, e1, e2, hA⟩
set_option maxHeartbeats 4000000 in
theorem st_feed {μ : zMem} (hA : zGA μ) (x1 : Int) (b1 : z32 x1) : ∃ r μ1 μ2, fX10_feed 5 x1 μ = some (r, μ1) ∧ fX11_feed 129 x1 μ1 = some (r, μ2) ∧ zGA μ2 := by
  obtain ⟨hG, hS, hH, hT, hB, hF, hW, hP⟩ := id hA
  obtain ⟨r, μ1, μ2, e1, e2, gT⟩ := op_feed hG hT x1
  have k1 := mX10_feed 5 x1 μ hG zagr_refl r μ1 e1
  have k2 := mX11_feed 129 x1 μ1 k1.1 zagr_refl r μ2 e2
  have n6 : μ 6 1 ≤ μ2 6 1 := Int.le_of_eq (zK2 (t := [501]) k1.2 k2.2 (by decide) 6 1 (by rw [tf_6_1]; decide)).symm
  have n21 : μ 21 3 ≤ μ2 21 3 := Int.le_of_eq (zK2 (t := [303]) k1.2 k2.2 (by decide) 21 3 (by rw [tf_21_3]; decide)).symm
  have n113 : μ 113 2 ≤ μ2 113 2 := Int.le_of_eq (zK2 (t := [2]) k1.2 k2.2 (by decide) 113 2 (by rw [tf_113_2]; decide)).symm
  have gS := zGS_keep (μ' := μ2) hS (zK2 k1.2 k2.2)
  have gH := zGH_keep (μ' := μ2) hH (zK2 k1.2 k2.2) n6
  have gB := zGB_keep (μ' := μ2) hB (zK2 k1.2 k2.2)
  have gF := zGF_keep (μ' := μ2) hF (zK2 k1.2 k2.2) n113 gB.1.2.1
  have gW := zGW_keep (μ' := μ2) hW (zK2 k1.2 k2.2)
  have gP := zGP_keep (μ' := μ2) hP (zK2 k1.2 k2.2) n6 n21
  exact ⟨r, μ1, μ2, e1, e2, k2.1, gS, gH, gT, gB, gF, gW, gP⟩
set_option maxHeartbeats 4000000 in
theorem st_writer {μ : zMem} (hA : zGA μ) (x1 x2 : Int) (b1 : z32 x1) (b2 : z32 x2) : ∃ r μ1 μ2, fX10_writer 5 x1 x2 μ = some (r, μ1) ∧ fX11_writer 129 x1 x2 μ1 = some (r, μ2) ∧ zGA μ2 := by
  obtain ⟨hG, hS, hH, hT, hB, hF, hW, hP⟩ := id hA
  obtain ⟨r, μ1, μ2, e1, e2, gT, gW, n21⟩ := op_writer hG hT hW x1 x2
  have k1 := mX10_writer 5 x1 x2 μ hG zagr_refl r μ1 e1
  have k2 := mX11_writer 129 x1 x2 μ1 k1.1 zagr_refl r μ2 e2
  have n6 : μ 6 1 ≤ μ2 6 1 := Int.le_of_eq (zK2 (t := [501]) k1.2 k2.2 (by decide) 6 1 (by rw [tf_6_1]; decide)).symm
  have n113 : μ 113 2 ≤ μ2 113 2 := Int.le_of_eq (zK2 (t := [2]) k1.2 k2.2 (by decide) 113 2 (by rw [tf_113_2]; decide)).symm
  have gS := zGS_keep (μ' := μ2) hS (zK2 k1.2 k2.2)
  have gH := zGH_keep (μ' := μ2) hH (zK2 k1.2 k2.2) n6
  have gB := zGB_keep (μ' := μ2) hB (zK2 k1.2 k2.2)
  have gF := zGF_keep (μ' := μ2) hF (zK2 k1.2 k2.2) n113 gB.1.2.1
  have gP := zGP_keep (μ' := μ2) hP (zK2 k1.2 k2.2) n6 n21
  exact ⟨r, μ1, μ2, e1, e2, k2.1, gS, gH, gT, gB, gF, gW, gP⟩
set_option maxHeartbeats 4000000 in
theorem st_heed {μ : zMem} (hA : zGA μ) (x1 x2 : Int) (b1 : z32 x1) (b2 : z32 x2) : ∃ r μ1 μ2, fX10_heed 5 x1 x2 μ = some (r, μ1) ∧ fX11_heed 129 x1 x2 μ1 = some (r, μ2) ∧ zGA μ2 := by
  obtain ⟨hG, hS, hH, hT, hB, hF, hW, hP⟩ := id hA
  obtain ⟨r, μ1, μ2, e1, e2, -⟩ := op_heed hG hS hW x1 x2
  have k1 := mX10_heed 5 x1 x2 μ hG zagr_refl r μ1 e1
  have k2 := mX11_heed 129 x1 x2 μ1 k1.1 zagr_refl r μ2 e2
  have n6 : μ 6 1 ≤ μ2 6 1 := Int.le_of_eq (zK2 (t := [501]) k1.2 k2.2 (by decide) 6 1 (by rw [tf_6_1]; decide)).symm
  have n21 : μ 21 3 ≤ μ2 21 3 := Int.le_of_eq (zK2 (t := [303]) k1.2 k2.2 (by decide) 21 3 (by rw [tf_21_3]; decide)).symm
  have n113 : μ 113 2 ≤ μ2 113 2 := Int.le_of_eq (zK2 (t := [2]) k1.2 k2.2 (by decide) 113 2 (by rw [tf_113_2]; decide)).symm
  have gS := zGS_keep (μ' := μ2) hS (zK2 k1.2 k2.2)
  have gH := zGH_keep (μ' := μ2) hH (zK2 k1.2 k2.2) n6
  have gT := zGT_keep (μ' := μ2) hT (zK2 k1.2 k2.2)
  have gB := zGB_keep (μ' := μ2) hB (zK2 k1.2 k2.2)
  have gF := zGF_keep (μ' := μ2) hF (zK2 k1.2 k2.2) n113 gB.1.2.1
  have gW := zGW_keep (μ' := μ2) hW (zK2 k1.2 k2.2)
  have gP := zGP_keep (μ' := μ2) hP (zK2 k1.2 k2.2) n6 n21
  exact ⟨r, μ1, μ2, e1, e2, k2.1, gS, gH, gT, gB, gF, gW, gP⟩
set_option maxHeartbeats 4000000 in
theorem st_take {μ : zMem} (hA : zGA μ) (x1 x2 : Int) (b1 : z32 x1) (b2 : z32 x2) : ∃ r μ1 μ2, fX10_take 5 x1 x2 μ = some (r, μ1) ∧ fX11_take 129 x1 x2 μ1 = some (r, μ2) ∧ zGA μ2 := by
  obtain ⟨hG, hS, hH, hT, hB, hF, hW, hP⟩ := id hA
  obtain ⟨r, μ1, μ2, e1, e2, gP⟩ := op_take hG hS hW hP x1 x2
  have k1 := mX10_take 5 x1 x2 μ hG zagr_refl r μ1 e1
  have k2 := mX11_take 129 x1 x2 μ1 k1.1 zagr_refl r μ2 e2
  have n6 : μ 6 1 ≤ μ2 6 1 := Int.le_of_eq (zK2 (t := [501]) k1.2 k2.2 (by decide) 6 1 (by rw [tf_6_1]; decide)).symm
  have n21 : μ 21 3 ≤ μ2 21 3 := Int.le_of_eq (zK2 (t := [303]) k1.2 k2.2 (by decide) 21 3 (by rw [tf_21_3]; decide)).symm
  have n113 : μ 113 2 ≤ μ2 113 2 := Int.le_of_eq (zK2 (t := [2]) k1.2 k2.2 (by decide) 113 2 (by rw [tf_113_2]; decide)).symm
  have gS := zGS_keep (μ' := μ2) hS (zK2 k1.2 k2.2)
  have gH := zGH_keep (μ' := μ2) hH (zK2 k1.2 k2.2) n6
  have gT := zGT_keep (μ' := μ2) hT (zK2 k1.2 k2.2)
  have gB := zGB_keep (μ' := μ2) hB (zK2 k1.2 k2.2)
  have gF := zGF_keep (μ' := μ2) hF (zK2 k1.2 k2.2) n113 gB.1.2.1
  have gW := zGW_keep (μ' := μ2) hW (zK2 k1.2 k2.2)
  exact ⟨r, μ1, μ2, e1, e2, k2.1, gS, gH, gT, gB, gF, gW, gP⟩
set_option maxHeartbeats 4000000 in
theorem st_told {μ : zMem} (hA : zGA μ) (x1 x2 : Int) (b1 : z32 x1) (b2 : z32 x2) : ∃ r μ1 μ2, fX10_told 5 x1 x2 μ = some (r, μ1) ∧ fX11_told 129 x1 x2 μ1 = some (r, μ2) ∧ zGA μ2 := by
  obtain ⟨hG, hS, hH, hT, hB, hF, hW, hP⟩ := id hA
  obtain ⟨r, μ1, μ2, e1, e2, gP⟩ := op_told hG hS hP hW.1.1 hW.1.2.1 hW.1.2.2 x1 x2 b2.2
  have k1 := mX10_told 5 x1 x2 μ hG zagr_refl r μ1 e1
  have k2 := mX11_told 129 x1 x2 μ1 k1.1 zagr_refl r μ2 e2
  have n6 : μ 6 1 ≤ μ2 6 1 := Int.le_of_eq (zK2 (t := [501]) k1.2 k2.2 (by decide) 6 1 (by rw [tf_6_1]; decide)).symm
  have n21 : μ 21 3 ≤ μ2 21 3 := Int.le_of_eq (zK2 (t := [303]) k1.2 k2.2 (by decide) 21 3 (by rw [tf_21_3]; decide)).symm
  have n113 : μ 113 2 ≤ μ2 113 2 := Int.le_of_eq (zK2 (t := [2]) k1.2 k2.2 (by decide) 113 2 (by rw [tf_113_2]; decide)).symm
  have gS := zGS_keep (μ' := μ2) hS (zK2 k1.2 k2.2)
  have gH := zGH_keep (μ' := μ2) hH (zK2 k1.2 k2.2) n6
  have gT := zGT_keep (μ' := μ2) hT (zK2 k1.2 k2.2)
  have gB := zGB_keep (μ' := μ2) hB (zK2 k1.2 k2.2)
  have gF := zGF_keep (μ' := μ2) hF (zK2 k1.2 k2.2) n113 gB.1.2.1
  have gW := zGW_keep (μ' := μ2) hW (zK2 k1.2 k2.2)
  exact ⟨r, μ1, μ2, e1, e2, k2.1, gS, gH, gT, gB, gF, gW, gP⟩
set_option maxHeartbeats 4000000 in
theorem st_add {μ : zMem} (hA : zGA μ) (x1 x2 x3 : Int) (b1 : z32 x1) (b2 : z32 x2) (b3 : z32 x3) : ∃ r μ1 μ2, fX10_add 5 x1 x2 x3 μ = some (r, μ1) ∧ fX11_add 129 x1 x2 x3 μ1 = some (r, μ2) ∧ zGA μ2 := by
  obtain ⟨hG, hS, hH, hT, hB, hF, hW, hP⟩ := id hA
  obtain ⟨r, μ1, μ2, e1, e2, gP⟩ := op_add hG hS hP x1 x2 x3
  have k1 := mX10_add 5 x1 x2 x3 μ hG zagr_refl r μ1 e1
  have k2 := mX11_add 129 x1 x2 x3 μ1 k1.1 zagr_refl r μ2 e2
  have n6 : μ 6 1 ≤ μ2 6 1 := Int.le_of_eq (zK2 (t := [501]) k1.2 k2.2 (by decide) 6 1 (by rw [tf_6_1]; decide)).symm
  have n21 : μ 21 3 ≤ μ2 21 3 := Int.le_of_eq (zK2 (t := [303]) k1.2 k2.2 (by decide) 21 3 (by rw [tf_21_3]; decide)).symm
  have n113 : μ 113 2 ≤ μ2 113 2 := Int.le_of_eq (zK2 (t := [2]) k1.2 k2.2 (by decide) 113 2 (by rw [tf_113_2]; decide)).symm
  have gS := zGS_keep (μ' := μ2) hS (zK2 k1.2 k2.2)
  have gH := zGH_keep (μ' := μ2) hH (zK2 k1.2 k2.2) n6
  have gT := zGT_keep (μ' := μ2) hT (zK2 k1.2 k2.2)
  have gB := zGB_keep (μ' := μ2) hB (zK2 k1.2 k2.2)
  have gF := zGF_keep (μ' := μ2) hF (zK2 k1.2 k2.2) n113 gB.1.2.1
  have gW := zGW_keep (μ' := μ2) hW (zK2 k1.2 k2.2)
  exact ⟨r, μ1, μ2, e1, e2, k2.1, gS, gH, gT, gB, gF, gW, gP⟩
set_option maxHeartbeats 4000000 in
theorem st_strike {μ : zMem} (hA : zGA μ) (x1 x2 : Int) (b1 : z32 x1) (b2 : z32 x2) : ∃ r μ1 μ2, fX10_strike 5 x1 x2 μ = some (r, μ1) ∧ fX11_strike 129 x1 x2 μ1 = some (r, μ2) ∧ zGA μ2 := by
  obtain ⟨hG, hS, hH, hT, hB, hF, hW, hP⟩ := id hA
  obtain ⟨r, μ1, μ2, e1, e2, gP⟩ := op_strike hG hP x1 x2
  have k1 := mX10_strike 5 x1 x2 μ hG zagr_refl r μ1 e1
  have k2 := mX11_strike 129 x1 x2 μ1 k1.1 zagr_refl r μ2 e2
  have n6 : μ 6 1 ≤ μ2 6 1 := Int.le_of_eq (zK2 (t := [501]) k1.2 k2.2 (by decide) 6 1 (by rw [tf_6_1]; decide)).symm
  have n21 : μ 21 3 ≤ μ2 21 3 := Int.le_of_eq (zK2 (t := [303]) k1.2 k2.2 (by decide) 21 3 (by rw [tf_21_3]; decide)).symm
  have n113 : μ 113 2 ≤ μ2 113 2 := Int.le_of_eq (zK2 (t := [2]) k1.2 k2.2 (by decide) 113 2 (by rw [tf_113_2]; decide)).symm
  have gS := zGS_keep (μ' := μ2) hS (zK2 k1.2 k2.2)
  have gH := zGH_keep (μ' := μ2) hH (zK2 k1.2 k2.2) n6
  have gT := zGT_keep (μ' := μ2) hT (zK2 k1.2 k2.2)
  have gB := zGB_keep (μ' := μ2) hB (zK2 k1.2 k2.2)
  have gF := zGF_keep (μ' := μ2) hF (zK2 k1.2 k2.2) n113 gB.1.2.1
  have gW := zGW_keep (μ' := μ2) hW (zK2 k1.2 k2.2)
  exact ⟨r, μ1, μ2, e1, e2, k2.1, gS, gH, gT, gB, gF, gW, gP⟩
set_option maxHeartbeats 4000000 in
theorem st_read {μ : zMem} (hA : zGA μ) (x1 x2 : Int) (b1 : z32 x1) (b2 : z32 x2) : ∃ r μ1 μ2, fX10_read 5 x1 x2 μ = some (r, μ1) ∧ fX11_read 129 x1 x2 μ1 = some (r, μ2) ∧ zGA μ2 := by
  obtain ⟨hG, hS, hH, hT, hB, hF, hW, hP⟩ := id hA
  obtain ⟨r, μ1, μ2, e1, e2, gP⟩ := op_read hG hS hP x1 x2
  have k1 := mX10_read 5 x1 x2 μ hG zagr_refl r μ1 e1
  have k2 := mX11_read 129 x1 x2 μ1 k1.1 zagr_refl r μ2 e2
  have n6 : μ 6 1 ≤ μ2 6 1 := Int.le_of_eq (zK2 (t := [501]) k1.2 k2.2 (by decide) 6 1 (by rw [tf_6_1]; decide)).symm
  have n21 : μ 21 3 ≤ μ2 21 3 := Int.le_of_eq (zK2 (t := [303]) k1.2 k2.2 (by decide) 21 3 (by rw [tf_21_3]; decide)).symm
  have n113 : μ 113 2 ≤ μ2 113 2 := Int.le_of_eq (zK2 (t := [2]) k1.2 k2.2 (by decide) 113 2 (by rw [tf_113_2]; decide)).symm
  have gS := zGS_keep (μ' := μ2) hS (zK2 k1.2 k2.2)
  have gH := zGH_keep (μ' := μ2) hH (zK2 k1.2 k2.2) n6
  have gT := zGT_keep (μ' := μ2) hT (zK2 k1.2 k2.2)
  have gB := zGB_keep (μ' := μ2) hB (zK2 k1.2 k2.2)
  have gF := zGF_keep (μ' := μ2) hF (zK2 k1.2 k2.2) n113 gB.1.2.1
  have gW := zGW_keep (μ' := μ2) hW (zK2 k1.2 k2.2)
  exact ⟨r, μ1, μ2, e1, e2, k2.1, gS, gH, gT, gB, gF, gW, gP⟩
set_option maxHeartbeats 4000000 in
theorem st_cut {μ : zMem} (hA : zGA μ) (x1 x2 : Int) (b1 : z32 x1) (b2 : z32 x2) : ∃ r μ1 μ2, fX10_cut 5 x1 x2 μ = some (r, μ1) ∧ fX11_cut 129 x1 x2 μ1 = some (r, μ2) ∧ zGA μ2 := by
  obtain ⟨hG, hS, hH, hT, hB, hF, hW, hP⟩ := id hA
  obtain ⟨r, μ1, μ2, e1, e2, gP⟩ := op_cut hG hP x1 x2
  have k1 := mX10_cut 5 x1 x2 μ hG zagr_refl r μ1 e1
  have k2 := mX11_cut 129 x1 x2 μ1 k1.1 zagr_refl r μ2 e2
  have n6 : μ 6 1 ≤ μ2 6 1 := Int.le_of_eq (zK2 (t := [501]) k1.2 k2.2 (by decide) 6 1 (by rw [tf_6_1]; decide)).symm
  have n21 : μ 21 3 ≤ μ2 21 3 := Int.le_of_eq (zK2 (t := [303]) k1.2 k2.2 (by decide) 21 3 (by rw [tf_21_3]; decide)).symm
  have n113 : μ 113 2 ≤ μ2 113 2 := Int.le_of_eq (zK2 (t := [2]) k1.2 k2.2 (by decide) 113 2 (by rw [tf_113_2]; decide)).symm
  have gS := zGS_keep (μ' := μ2) hS (zK2 k1.2 k2.2)
  have gH := zGH_keep (μ' := μ2) hH (zK2 k1.2 k2.2) n6
  have gT := zGT_keep (μ' := μ2) hT (zK2 k1.2 k2.2)
  have gB := zGB_keep (μ' := μ2) hB (zK2 k1.2 k2.2)
  have gF := zGF_keep (μ' := μ2) hF (zK2 k1.2 k2.2) n113 gB.1.2.1
  have gW := zGW_keep (μ' := μ2) hW (zK2 k1.2 k2.2)
  exact ⟨r, μ1, μ2, e1, e2, k2.1, gS, gH, gT, gB, gF, gW, gP⟩
set_option maxHeartbeats 4000000 in
theorem st_page {μ : zMem} (hA : zGA μ) (x1 x2 : Int) (b1 : z32 x1) (b2 : z32 x2) : ∃ r μ1 μ2, fX10_page 5 x1 x2 μ = some (r, μ1) ∧ fX11_page 129 x1 x2 μ1 = some (r, μ2) ∧ zGA μ2 := by
  obtain ⟨hG, hS, hH, hT, hB, hF, hW, hP⟩ := id hA
  obtain ⟨r, e1, e2⟩ := op_page hG hP x1 x2 b2.2
  exact ⟨r, μ, μ, e1, e2, hA⟩
set_option maxHeartbeats 4000000 in
theorem st_led {μ : zMem} (hA : zGA μ) (x1 x2 : Int) (b1 : z32 x1) (b2 : z32 x2) : ∃ r μ1 μ2, fX10_led 5 x1 x2 μ = some (r, μ1) ∧ fX11_led 129 x1 x2 μ1 = some (r, μ2) ∧ zGA μ2 := by
  obtain ⟨hG, hS, hH, hT, hB, hF, hW, hP⟩ := id hA
  obtain ⟨r, e1, e2⟩ := op_led hG hS hP x1 x2
  exact ⟨r, μ, μ, e1, e2, hA⟩
set_option maxHeartbeats 4000000 in
theorem st_sure {μ : zMem} (hA : zGA μ) (x1 x2 : Int) (b1 : z32 x1) (b2 : z32 x2) : ∃ r μ1 μ2, fX10_sure 5 x1 x2 μ = some (r, μ1) ∧ fX11_sure 129 x1 x2 μ1 = some (r, μ2) ∧ zGA μ2 := by
  obtain ⟨hG, hS, hH, hT, hB, hF, hW, hP⟩ := id hA
  obtain ⟨r, e1, e2⟩ := op_sure hG hS hP hW.1.1 hW.1.2.1 hW.1.2.2 x1 x2
  exact ⟨r, μ, μ, e1, e2, hA⟩
set_option maxHeartbeats 4000000 in
theorem st_only {μ : zMem} (hA : zGA μ) : ∃ r μ1 μ2, fX10_only 5 μ = some (r, μ1) ∧ fX11_only 129 μ1 = some (r, μ2) ∧ zGA μ2 := by
  obtain ⟨hG, hS, hH, hT, hB, hF, hW, hP⟩ := id hA
  obtain ⟨r, e1, e2⟩ := op_only hG hS hP
  exact ⟨r, μ, μ, e1, e2, hA⟩
set_option maxHeartbeats 4000000 in
theorem st_fight {μ : zMem} (hA : zGA μ) (x1 x2 : Int) (b1 : z32 x1) (b2 : z32 x2) : ∃ r μ1 μ2, fX10_fight 5 x1 x2 μ = some (r, μ1) ∧ fX11_fight 129 x1 x2 μ1 = some (r, μ2) ∧ zGA μ2 := by
  obtain ⟨hG, hS, hH, hT, hB, hF, hW, hP⟩ := id hA
  obtain ⟨r, e1, e2⟩ := op_fight hG hS hP x1 x2 b1.2
  exact ⟨r, μ, μ, e1, e2, hA⟩
set_option maxHeartbeats 4000000 in
theorem st_order {μ : zMem} (hA : zGA μ) (x1 : Int) (b1 : z32 x1) : ∃ r μ1 μ2, fX10_order 5 x1 μ = some (r, μ1) ∧ fX11_order 129 x1 μ1 = some (r, μ2) ∧ zGA μ2 := by
  obtain ⟨hG, hS, hH, hT, hB, hF, hW, hP⟩ := id hA
  obtain ⟨r, μ1, e1, e2⟩ := op_order hG hS hP x1
  have k1 := mX10_order 5 x1 μ hG zagr_refl r μ1 e1
  have k2 := mX11_order 129 x1 μ1 k1.1 zagr_refl r μ1 e2
  have n6 : μ 6 1 ≤ μ1 6 1 := Int.le_of_eq (zK2 (t := [501]) k1.2 k2.2 (by decide) 6 1 (by rw [tf_6_1]; decide)).symm
  have n21 : μ 21 3 ≤ μ1 21 3 := Int.le_of_eq (zK2 (t := [303]) k1.2 k2.2 (by decide) 21 3 (by rw [tf_21_3]; decide)).symm
  have n113 : μ 113 2 ≤ μ1 113 2 := Int.le_of_eq (zK2 (t := [2]) k1.2 k2.2 (by decide) 113 2 (by rw [tf_113_2]; decide)).symm
  have gS := zGS_keep (μ' := μ1) hS (zK2 k1.2 k2.2)
  have gH := zGH_keep (μ' := μ1) hH (zK2 k1.2 k2.2) n6
  have gT := zGT_keep (μ' := μ1) hT (zK2 k1.2 k2.2)
  have gB := zGB_keep (μ' := μ1) hB (zK2 k1.2 k2.2)
  have gF := zGF_keep (μ' := μ1) hF (zK2 k1.2 k2.2) n113 gB.1.2.1
  have gW := zGW_keep (μ' := μ1) hW (zK2 k1.2 k2.2)
  have gP := zGP_keep (μ' := μ1) hP (zK2 k1.2 k2.2) n6 n21
  exact ⟨r, μ1, μ1, e1, e2, k2.1, gS, gH, gT, gB, gF, gW, gP⟩
set_option maxHeartbeats 4000000 in
theorem st_said {μ : zMem} (hA : zGA μ) (x1 x2 x3 : Int) (b1 : z32 x1) (b2 : z32 x2) (b3 : z32 x3) : ∃ r μ1 μ2, fX10_said 5 x1 x2 x3 μ = some (r, μ1) ∧ fX11_said 129 x1 x2 x3 μ1 = some (r, μ2) ∧ zGA μ2 := by
  obtain ⟨hG, hS, hH, hT, hB, hF, hW, hP⟩ := id hA
  obtain ⟨r, μ1, μ2, e1, e2, -⟩ := op_said hG hS hW hP x1 x2 x3
  have k1 := mX10_said 5 x1 x2 x3 μ hG zagr_refl r μ1 e1
  have k2 := mX11_said 129 x1 x2 x3 μ1 k1.1 zagr_refl r μ2 e2
  have n6 : μ 6 1 ≤ μ2 6 1 := Int.le_of_eq (zK2 (t := [501]) k1.2 k2.2 (by decide) 6 1 (by rw [tf_6_1]; decide)).symm
  have n21 : μ 21 3 ≤ μ2 21 3 := Int.le_of_eq (zK2 (t := [303]) k1.2 k2.2 (by decide) 21 3 (by rw [tf_21_3]; decide)).symm
  have n113 : μ 113 2 ≤ μ2 113 2 := Int.le_of_eq (zK2 (t := [2]) k1.2 k2.2 (by decide) 113 2 (by rw [tf_113_2]; decide)).symm
  have gS := zGS_keep (μ' := μ2) hS (zK2 k1.2 k2.2)
  have gH := zGH_keep (μ' := μ2) hH (zK2 k1.2 k2.2) n6
  have gT := zGT_keep (μ' := μ2) hT (zK2 k1.2 k2.2)
  have gB := zGB_keep (μ' := μ2) hB (zK2 k1.2 k2.2)
  have gF := zGF_keep (μ' := μ2) hF (zK2 k1.2 k2.2) n113 gB.1.2.1
  have gW := zGW_keep (μ' := μ2) hW (zK2 k1.2 k2.2)
  have gP := zGP_keep (μ' := μ2) hP (zK2 k1.2 k2.2) n6 n21
  exact ⟨r, μ1, μ2, e1, e2, k2.1, gS, gH, gT, gB, gF, gW, gP⟩
set_option maxHeartbeats 4000000 in
theorem st_whose {μ : zMem} (hA : zGA μ) (x1 : Int) (b1 : z32 x1) : ∃ r μ1 μ2, fX10_whose 5 x1 μ = some (r, μ1) ∧ fX11_whose 129 x1 μ1 = some (r, μ2) ∧ zGA μ2 := by
  obtain ⟨hG, hS, hH, hT, hB, hF, hW, hP⟩ := id hA
  obtain ⟨r, μ1, μ2, e1, e2, -⟩ := op_whose hG hS hW hP x1
  have k1 := mX10_whose 5 x1 μ hG zagr_refl r μ1 e1
  have k2 := mX11_whose 129 x1 μ1 k1.1 zagr_refl r μ2 e2
  have n6 : μ 6 1 ≤ μ2 6 1 := Int.le_of_eq (zK2 (t := [501]) k1.2 k2.2 (by decide) 6 1 (by rw [tf_6_1]; decide)).symm
  have n21 : μ 21 3 ≤ μ2 21 3 := Int.le_of_eq (zK2 (t := [303]) k1.2 k2.2 (by decide) 21 3 (by rw [tf_21_3]; decide)).symm
  have n113 : μ 113 2 ≤ μ2 113 2 := Int.le_of_eq (zK2 (t := [2]) k1.2 k2.2 (by decide) 113 2 (by rw [tf_113_2]; decide)).symm
  have gS := zGS_keep (μ' := μ2) hS (zK2 k1.2 k2.2)
  have gH := zGH_keep (μ' := μ2) hH (zK2 k1.2 k2.2) n6
  have gT := zGT_keep (μ' := μ2) hT (zK2 k1.2 k2.2)
  have gB := zGB_keep (μ' := μ2) hB (zK2 k1.2 k2.2)
  have gF := zGF_keep (μ' := μ2) hF (zK2 k1.2 k2.2) n113 gB.1.2.1
  have gW := zGW_keep (μ' := μ2) hW (zK2 k1.2 k2.2)
  have gP := zGP_keep (μ' := μ2) hP (zK2 k1.2 k2.2) n6 n21
  exact ⟨r, μ1, μ2, e1, e2, k2.1, gS, gH, gT, gB, gF, gW, gP⟩
set_option maxHeartbeats 4000000 in
theorem st_learnt {μ : zMem} (hA : zGA μ) (x1 x2 : Int) (b1 : z32 x1) (b2 : z32 x2) : ∃ r μ1 μ2, fX10_learnt 5 x1 x2 μ = some (r, μ1) ∧ fX11_learnt 129 x1 x2 μ1 = some (r, μ2) ∧ zGA μ2 := by
  obtain ⟨hG, hS, hH, hT, hB, hF, hW, hP⟩ := id hA
  obtain ⟨r, μ1, μ2, e1, e2, -⟩ := op_learnt hG hS hW hP x1 x2 b1.2
  have k1 := mX10_learnt 5 x1 x2 μ hG zagr_refl r μ1 e1
  have k2 := mX11_learnt 129 x1 x2 μ1 k1.1 zagr_refl r μ2 e2
  have n6 : μ 6 1 ≤ μ2 6 1 := Int.le_of_eq (zK2 (t := [501]) k1.2 k2.2 (by decide) 6 1 (by rw [tf_6_1]; decide)).symm
  have n21 : μ 21 3 ≤ μ2 21 3 := Int.le_of_eq (zK2 (t := [303]) k1.2 k2.2 (by decide) 21 3 (by rw [tf_21_3]; decide)).symm
  have n113 : μ 113 2 ≤ μ2 113 2 := Int.le_of_eq (zK2 (t := [2]) k1.2 k2.2 (by decide) 113 2 (by rw [tf_113_2]; decide)).symm
  have gS := zGS_keep (μ' := μ2) hS (zK2 k1.2 k2.2)
  have gH := zGH_keep (μ' := μ2) hH (zK2 k1.2 k2.2) n6
  have gT := zGT_keep (μ' := μ2) hT (zK2 k1.2 k2.2)
  have gB := zGB_keep (μ' := μ2) hB (zK2 k1.2 k2.2)
  have gF := zGF_keep (μ' := μ2) hF (zK2 k1.2 k2.2) n113 gB.1.2.1
  have gW := zGW_keep (μ' := μ2) hW (zK2 k1.2 k2.2)
  have gP := zGP_keep (μ' := μ2) hP (zK2 k1.2 k2.2) n6 n21
  exact ⟨r, μ1, μ2, e1, e2, k2.1, gS, gH, gT, gB, gF, gW, gP⟩
set_option maxHeartbeats 4000000 in
theorem st_asleep {μ : zMem} (hA : zGA μ) (x1 x2 : Int) (b1 : z32 x1) (b2 : z32 x2) : ∃ r μ1 μ2, fX10_asleep 5 x1 x2 μ = some (r, μ1) ∧ fX11_asleep 129 x1 x2 μ1 = some (r, μ2) ∧ zGA μ2 := by
  obtain ⟨hG, hS, hH, hT, hB, hF, hW, hP⟩ := id hA
  obtain ⟨r, e1, e2⟩ := op_asleep hG hS hP x1 x2
  exact ⟨r, μ, μ, e1, e2, hA⟩
set_option maxHeartbeats 4000000 in
theorem st_ask {μ : zMem} (hA : zGA μ) (x1 : Int) (b1 : z32 x1) : ∃ r μ1 μ2, fX10_ask 5 x1 μ = some (r, μ1) ∧ fX11_ask 129 x1 μ1 = some (r, μ2) ∧ zGA μ2 := by
  obtain ⟨hG, hS, hH, hT, hB, hF, hW, hP⟩ := id hA
  obtain ⟨r, μ1, μ2, e1, e2, -⟩ := op_ask hG hS hW x1
  have k1 := mX10_ask 5 x1 μ hG zagr_refl r μ1 e1
  have k2 := mX11_ask 129 x1 μ1 k1.1 zagr_refl r μ2 e2
  have n6 : μ 6 1 ≤ μ2 6 1 := Int.le_of_eq (zK2 (t := [501]) k1.2 k2.2 (by decide) 6 1 (by rw [tf_6_1]; decide)).symm
  have n21 : μ 21 3 ≤ μ2 21 3 := Int.le_of_eq (zK2 (t := [303]) k1.2 k2.2 (by decide) 21 3 (by rw [tf_21_3]; decide)).symm
  have n113 : μ 113 2 ≤ μ2 113 2 := Int.le_of_eq (zK2 (t := [2]) k1.2 k2.2 (by decide) 113 2 (by rw [tf_113_2]; decide)).symm
  have gS := zGS_keep (μ' := μ2) hS (zK2 k1.2 k2.2)
  have gH := zGH_keep (μ' := μ2) hH (zK2 k1.2 k2.2) n6
  have gT := zGT_keep (μ' := μ2) hT (zK2 k1.2 k2.2)
  have gB := zGB_keep (μ' := μ2) hB (zK2 k1.2 k2.2)
  have gF := zGF_keep (μ' := μ2) hF (zK2 k1.2 k2.2) n113 gB.1.2.1
  have gW := zGW_keep (μ' := μ2) hW (zK2 k1.2 k2.2)
  have gP := zGP_keep (μ' := μ2) hP (zK2 k1.2 k2.2) n6 n21
  exact ⟨r, μ1, μ2, e1, e2, k2.1, gS, gH, gT, gB, gF, gW, gP⟩
set_option maxHeartbeats 4000000 in
theorem st_years {μ : zMem} (hA : zGA μ) (x1 x2 : Int) (b1 : z32 x1) (b2 : z32 x2) : ∃ r μ1 μ2, fX10_years 5 x1 x2 μ = some (r, μ1) ∧ fX11_years 129 x1 x2 μ1 = some (r, μ2) ∧ zGA μ2 := by
  obtain ⟨hG, hS, hH, hT, hB, hF, hW, hP⟩ := id hA
  obtain ⟨r, μ1, μ2, e1, e2, -⟩ := op_years hG hS hW x1 x2
  have k1 := mX10_years 5 x1 x2 μ hG zagr_refl r μ1 e1
  have k2 := mX11_years 129 x1 x2 μ1 k1.1 zagr_refl r μ2 e2
  have n6 : μ 6 1 ≤ μ2 6 1 := Int.le_of_eq (zK2 (t := [501]) k1.2 k2.2 (by decide) 6 1 (by rw [tf_6_1]; decide)).symm
  have n21 : μ 21 3 ≤ μ2 21 3 := Int.le_of_eq (zK2 (t := [303]) k1.2 k2.2 (by decide) 21 3 (by rw [tf_21_3]; decide)).symm
  have n113 : μ 113 2 ≤ μ2 113 2 := Int.le_of_eq (zK2 (t := [2]) k1.2 k2.2 (by decide) 113 2 (by rw [tf_113_2]; decide)).symm
  have gS := zGS_keep (μ' := μ2) hS (zK2 k1.2 k2.2)
  have gH := zGH_keep (μ' := μ2) hH (zK2 k1.2 k2.2) n6
  have gT := zGT_keep (μ' := μ2) hT (zK2 k1.2 k2.2)
  have gB := zGB_keep (μ' := μ2) hB (zK2 k1.2 k2.2)
  have gF := zGF_keep (μ' := μ2) hF (zK2 k1.2 k2.2) n113 gB.1.2.1
  have gW := zGW_keep (μ' := μ2) hW (zK2 k1.2 k2.2)
  have gP := zGP_keep (μ' := μ2) hP (zK2 k1.2 k2.2) n6 n21
  exact ⟨r, μ1, μ2, e1, e2, k2.1, gS, gH, gT, gB, gF, gW, gP⟩
set_option maxHeartbeats 4000000 in
theorem st_undo {μ : zMem} (hA : zGA μ) : ∃ r μ1 μ2, fX10_undo 5 μ = some (r, μ1) ∧ fX11_undo 129 μ1 = some (r, μ2) ∧ zGA μ2 := by
  obtain ⟨hG, hS, hH, hT, hB, hF, hW, hP⟩ := id hA
  obtain ⟨r, μ1, μ2, e1, e2, gS, gH, n6⟩ := op_undo hG hS hH
  have k1 := mX10_undo 5 μ hG zagr_refl r μ1 e1
  have k2 := mX11_undo 129 μ1 k1.1 zagr_refl r μ2 e2
  have n6 : μ 6 1 ≤ μ2 6 1 := Int.le_of_eq (zK2 (t := [501]) k1.2 k2.2 (by decide) 6 1 (by rw [tf_6_1]; decide)).symm
  have n21 : μ 21 3 ≤ μ2 21 3 := Int.le_of_eq (zK2 (t := [303]) k1.2 k2.2 (by decide) 21 3 (by rw [tf_21_3]; decide)).symm
  have n113 : μ 113 2 ≤ μ2 113 2 := Int.le_of_eq (zK2 (t := [2]) k1.2 k2.2 (by decide) 113 2 (by rw [tf_113_2]; decide)).symm
  have gT := zGT_keep (μ' := μ2) hT (zK2 k1.2 k2.2)
  have gB := zGB_keep (μ' := μ2) hB (zK2 k1.2 k2.2)
  have gF := zGF_keep (μ' := μ2) hF (zK2 k1.2 k2.2) n113 gB.1.2.1
  have gW := zGW_keep (μ' := μ2) hW (zK2 k1.2 k2.2)
  have gP := zGP_keep (μ' := μ2) hP (zK2 k1.2 k2.2) n6 n21
  exact ⟨r, μ1, μ2, e1, e2, k2.1, gS, gH, gT, gB, gF, gW, gP⟩
set_option maxHeartbeats 4000000 in
theorem st_redo {μ : zMem} (hA : zGA μ) : ∃ r μ1 μ2, fX10_redo 5 μ = some (r, μ1) ∧ fX11_redo 129 μ1 = some (r, μ2) ∧ zGA μ2 := by
  obtain ⟨hG, hS, hH, hT, hB, hF, hW, hP⟩ := id hA
  obtain ⟨r, μ1, μ2, e1, e2, gS, gH, n6⟩ := op_redo hG hS hH
  have k1 := mX10_redo 5 μ hG zagr_refl r μ1 e1
  have k2 := mX11_redo 129 μ1 k1.1 zagr_refl r μ2 e2
  have n6 : μ 6 1 ≤ μ2 6 1 := Int.le_of_eq (zK2 (t := [501]) k1.2 k2.2 (by decide) 6 1 (by rw [tf_6_1]; decide)).symm
  have n21 : μ 21 3 ≤ μ2 21 3 := Int.le_of_eq (zK2 (t := [303]) k1.2 k2.2 (by decide) 21 3 (by rw [tf_21_3]; decide)).symm
  have n113 : μ 113 2 ≤ μ2 113 2 := Int.le_of_eq (zK2 (t := [2]) k1.2 k2.2 (by decide) 113 2 (by rw [tf_113_2]; decide)).symm
  have gT := zGT_keep (μ' := μ2) hT (zK2 k1.2 k2.2)
  have gB := zGB_keep (μ' := μ2) hB (zK2 k1.2 k2.2)
  have gF := zGF_keep (μ' := μ2) hF (zK2 k1.2 k2.2) n113 gB.1.2.1
  have gW := zGW_keep (μ' := μ2) hW (zK2 k1.2 k2.2)
  have gP := zGP_keep (μ' := μ2) hP (zK2 k1.2 k2.2) n6 n21
  exact ⟨r, μ1, μ2, e1, e2, k2.1, gS, gH, gT, gB, gF, gW, gP⟩
set_option maxHeartbeats 4000000 in
theorem st_body {μ : zMem} (hA : zGA μ) (x1 : Int) (b1 : z32 x1) : ∃ r μ1 μ2, fX10_body 5 x1 μ = some (r, μ1) ∧ fX11_body 129 x1 μ1 = some (r, μ2) ∧ zGA μ2 := by
  obtain ⟨hG, hS, hH, hT, hB, hF, hW, hP⟩ := id hA
  obtain ⟨r, μ1, μ2, e1, e2, gB⟩ := op_body hG hB x1
  have k1 := mX10_body 5 x1 μ hG zagr_refl r μ1 e1
  have k2 := mX11_body 129 x1 μ1 k1.1 zagr_refl r μ2 e2
  have n6 : μ 6 1 ≤ μ2 6 1 := Int.le_of_eq (zK2 (t := [501]) k1.2 k2.2 (by decide) 6 1 (by rw [tf_6_1]; decide)).symm
  have n21 : μ 21 3 ≤ μ2 21 3 := Int.le_of_eq (zK2 (t := [303]) k1.2 k2.2 (by decide) 21 3 (by rw [tf_21_3]; decide)).symm
  have n113 : μ 113 2 ≤ μ2 113 2 := Int.le_trans (body_grows hG hB e1) (Int.le_of_eq (k2.2 113 2 (by rw [tf_113_2]; decide)).symm)
  have gS := zGS_keep (μ' := μ2) hS (zK2 k1.2 k2.2)
  have gH := zGH_keep (μ' := μ2) hH (zK2 k1.2 k2.2) n6
  have gT := zGT_keep (μ' := μ2) hT (zK2 k1.2 k2.2)
  have gF := zGF_keep (μ' := μ2) hF (zK2 k1.2 k2.2) n113 gB.1.2.1
  have gW := zGW_keep (μ' := μ2) hW (zK2 k1.2 k2.2)
  have gP := zGP_keep (μ' := μ2) hP (zK2 k1.2 k2.2) n6 n21
  exact ⟨r, μ1, μ2, e1, e2, k2.1, gS, gH, gT, gB, gF, gW, gP⟩
set_option maxHeartbeats 4000000 in
theorem st_act {μ : zMem} (hA : zGA μ) (x1 x2 x3 : Int) (b1 : z32 x1) (b2 : z32 x2) (b3 : z32 x3) : ∃ r μ1 μ2, fX10_act 5 x1 x2 x3 μ = some (r, μ1) ∧ fX11_act 129 x1 x2 x3 μ1 = some (r, μ2) ∧ zGA μ2 := by
  obtain ⟨hG, hS, hH, hT, hB, hF, hW, hP⟩ := id hA
  obtain ⟨r, μ1, μ2, e1, e2, gB, n113⟩ := op_act hG hB x1 x2 x3
  have k1 := mX10_act 5 x1 x2 x3 μ hG zagr_refl r μ1 e1
  have k2 := mX11_act 129 x1 x2 x3 μ1 k1.1 zagr_refl r μ2 e2
  have n6 : μ 6 1 ≤ μ2 6 1 := Int.le_of_eq (zK2 (t := [501]) k1.2 k2.2 (by decide) 6 1 (by rw [tf_6_1]; decide)).symm
  have n21 : μ 21 3 ≤ μ2 21 3 := Int.le_of_eq (zK2 (t := [303]) k1.2 k2.2 (by decide) 21 3 (by rw [tf_21_3]; decide)).symm
  have n113 : μ 113 2 ≤ μ2 113 2 := Int.le_of_eq (zK2 (t := [2]) k1.2 k2.2 (by decide) 113 2 (by rw [tf_113_2]; decide)).symm
  have gS := zGS_keep (μ' := μ2) hS (zK2 k1.2 k2.2)
  have gH := zGH_keep (μ' := μ2) hH (zK2 k1.2 k2.2) n6
  have gT := zGT_keep (μ' := μ2) hT (zK2 k1.2 k2.2)
  have gF := zGF_keep (μ' := μ2) hF (zK2 k1.2 k2.2) n113 gB.1.2.1
  have gW := zGW_keep (μ' := μ2) hW (zK2 k1.2 k2.2)
  have gP := zGP_keep (μ' := μ2) hP (zK2 k1.2 k2.2) n6 n21
  exact ⟨r, μ1, μ2, e1, e2, k2.1, gS, gH, gT, gB, gF, gW, gP⟩
set_option maxHeartbeats 4000000 in
theorem st_trace {μ : zMem} (hA : zGA μ) (x1 : Int) (b1 : z32 x1) : ∃ r μ1 μ2, fX10_trace 5 x1 μ = some (r, μ1) ∧ fX11_trace 129 x1 μ1 = some (r, μ2) ∧ zGA μ2 := by
  obtain ⟨hG, hS, hH, hT, hB, hF, hW, hP⟩ := id hA
  obtain ⟨r, e1, e2⟩ := op_trace hG hB x1
  exact ⟨r, μ, μ, e1, e2, hA⟩
set_option maxHeartbeats 4000000 in
theorem st_keep {μ : zMem} (hA : zGA μ) (x1 x2 : Int) (b1 : z32 x1) (b2 : z32 x2) : ∃ r μ1 μ2, fX10_keep 5 x1 x2 μ = some (r, μ1) ∧ fX11_keep 129 x1 x2 μ1 = some (r, μ2) ∧ zGA μ2 := by
  obtain ⟨hG, hS, hH, hT, hB, hF, hW, hP⟩ := id hA
  obtain ⟨r, μ1, μ2, e1, e2, gF⟩ := op_keep hG hF hB.1.2.2.1 x1 x2
  have k1 := mX10_keep 5 x1 x2 μ hG zagr_refl r μ1 e1
  have k2 := mX11_keep 129 x1 x2 μ1 k1.1 zagr_refl r μ2 e2
  have n6 : μ 6 1 ≤ μ2 6 1 := Int.le_of_eq (zK2 (t := [501]) k1.2 k2.2 (by decide) 6 1 (by rw [tf_6_1]; decide)).symm
  have n21 : μ 21 3 ≤ μ2 21 3 := Int.le_of_eq (zK2 (t := [303]) k1.2 k2.2 (by decide) 21 3 (by rw [tf_21_3]; decide)).symm
  have n113 : μ 113 2 ≤ μ2 113 2 := Int.le_of_eq (zK2 (t := [2]) k1.2 k2.2 (by decide) 113 2 (by rw [tf_113_2]; decide)).symm
  have gS := zGS_keep (μ' := μ2) hS (zK2 k1.2 k2.2)
  have gH := zGH_keep (μ' := μ2) hH (zK2 k1.2 k2.2) n6
  have gT := zGT_keep (μ' := μ2) hT (zK2 k1.2 k2.2)
  have gB := zGB_keep (μ' := μ2) hB (zK2 k1.2 k2.2)
  have gW := zGW_keep (μ' := μ2) hW (zK2 k1.2 k2.2)
  have gP := zGP_keep (μ' := μ2) hP (zK2 k1.2 k2.2) n6 n21
  exact ⟨r, μ1, μ2, e1, e2, k2.1, gS, gH, gT, gB, gF, gW, gP⟩
set_option maxHeartbeats 4000000 in
theorem st_row {μ : zMem} (hA : zGA μ) (x1 x2 x3 : Int) (b1 : z32 x1) (b2 : z32 x2) (b3 : z32 x3) : ∃ r μ1 μ2, fX10_row 5 x1 x2 x3 μ = some (r, μ1) ∧ fX11_row 129 x1 x2 x3 μ1 = some (r, μ2) ∧ zGA μ2 := by
  obtain ⟨hG, hS, hH, hT, hB, hF, hW, hP⟩ := id hA
  obtain ⟨r, μ1, μ2, e1, e2, gF⟩ := op_row hG hF x1 x2 x3
  have k1 := mX10_row 5 x1 x2 x3 μ hG zagr_refl r μ1 e1
  have k2 := mX11_row 129 x1 x2 x3 μ1 k1.1 zagr_refl r μ2 e2
  have n6 : μ 6 1 ≤ μ2 6 1 := Int.le_of_eq (zK2 (t := [501]) k1.2 k2.2 (by decide) 6 1 (by rw [tf_6_1]; decide)).symm
  have n21 : μ 21 3 ≤ μ2 21 3 := Int.le_of_eq (zK2 (t := [303]) k1.2 k2.2 (by decide) 21 3 (by rw [tf_21_3]; decide)).symm
  have n113 : μ 113 2 ≤ μ2 113 2 := Int.le_of_eq (zK2 (t := [2]) k1.2 k2.2 (by decide) 113 2 (by rw [tf_113_2]; decide)).symm
  have gS := zGS_keep (μ' := μ2) hS (zK2 k1.2 k2.2)
  have gH := zGH_keep (μ' := μ2) hH (zK2 k1.2 k2.2) n6
  have gT := zGT_keep (μ' := μ2) hT (zK2 k1.2 k2.2)
  have gB := zGB_keep (μ' := μ2) hB (zK2 k1.2 k2.2)
  have gW := zGW_keep (μ' := μ2) hW (zK2 k1.2 k2.2)
  have gP := zGP_keep (μ' := μ2) hP (zK2 k1.2 k2.2) n6 n21
  exact ⟨r, μ1, μ2, e1, e2, k2.1, gS, gH, gT, gB, gF, gW, gP⟩
set_option maxHeartbeats 4000000 in
theorem st_put {μ : zMem} (hA : zGA μ) (x1 x2 x3 : Int) (b1 : z32 x1) (b2 : z32 x2) : ∃ r μ1 μ2, fX10_put 5 x1 x2 x3 μ = some (r, μ1) ∧ fX11_put 129 x1 x2 x3 μ1 = some (r, μ2) ∧ zGA μ2 := by
  obtain ⟨hG, hS, hH, hT, hB, hF, hW, hP⟩ := id hA
  obtain ⟨r, μ1, μ2, e1, e2, gF⟩ := op_put hG hF (d := x1) (x := x2) b2 x3
  have k1 := mX10_put 5 x1 x2 x3 μ hG zagr_refl r μ1 e1
  have k2 := mX11_put 129 x1 x2 x3 μ1 k1.1 zagr_refl r μ2 e2
  have n6 : μ 6 1 ≤ μ2 6 1 := Int.le_of_eq (zK2 (t := [501]) k1.2 k2.2 (by decide) 6 1 (by rw [tf_6_1]; decide)).symm
  have n21 : μ 21 3 ≤ μ2 21 3 := Int.le_of_eq (zK2 (t := [303]) k1.2 k2.2 (by decide) 21 3 (by rw [tf_21_3]; decide)).symm
  have n113 : μ 113 2 ≤ μ2 113 2 := Int.le_of_eq (zK2 (t := [2]) k1.2 k2.2 (by decide) 113 2 (by rw [tf_113_2]; decide)).symm
  have gS := zGS_keep (μ' := μ2) hS (zK2 k1.2 k2.2)
  have gH := zGH_keep (μ' := μ2) hH (zK2 k1.2 k2.2) n6
  have gT := zGT_keep (μ' := μ2) hT (zK2 k1.2 k2.2)
  have gB := zGB_keep (μ' := μ2) hB (zK2 k1.2 k2.2)
  have gW := zGW_keep (μ' := μ2) hW (zK2 k1.2 k2.2)
  have gP := zGP_keep (μ' := μ2) hP (zK2 k1.2 k2.2) n6 n21
  exact ⟨r, μ1, μ2, e1, e2, k2.1, gS, gH, gT, gB, gF, gW, gP⟩
set_option maxHeartbeats 4000000 in
theorem st_element {μ : zMem} (hA : zGA μ) (x1 x2 : Int) (b1 : z32 x1) (b2 : z32 x2) : ∃ r μ1 μ2, fX10_element 5 x1 x2 μ = some (r, μ1) ∧ fX11_element 129 x1 x2 μ1 = some (r, μ2) ∧ zGA μ2 := by
  obtain ⟨hG, hS, hH, hT, hB, hF, hW, hP⟩ := id hA
  obtain ⟨r, e1, e2⟩ := op_element hG hF (d := x1) (x := x2) b2
  exact ⟨r, μ, μ, e1, e2, hA⟩
set_option maxHeartbeats 4000000 in
theorem st_shift {μ : zMem} (hA : zGA μ) (x1 x2 x3 x4 x5 : Int) (b1 : z32 x1) (b2 : z32 x2) (b3 : z32 x3) (b4 : z32 x4) (b5 : z32 x5) : ∃ r μ1 μ2, fX10_shift 5 x1 x2 x3 x4 x5 μ = some (r, μ1) ∧ fX11_shift 129 x1 x2 x3 x4 x5 μ1 = some (r, μ2) ∧ zGA μ2 := by
  obtain ⟨hG, hS, hH, hT, hB, hF, hW, hP⟩ := id hA
  obtain ⟨r, μ1, μ2, e1, e2, gF⟩ := op_shift hG hF (d := x1) (i := x2) (d2 := x3) (j := x4) (c := x5) b2 b4 b5
  have k1 := mX10_shift 5 x1 x2 x3 x4 x5 μ hG zagr_refl r μ1 e1
  have k2 := mX11_shift 129 x1 x2 x3 x4 x5 μ1 k1.1 zagr_refl r μ2 e2
  have n6 : μ 6 1 ≤ μ2 6 1 := Int.le_of_eq (zK2 (t := [501]) k1.2 k2.2 (by decide) 6 1 (by rw [tf_6_1]; decide)).symm
  have n21 : μ 21 3 ≤ μ2 21 3 := Int.le_of_eq (zK2 (t := [303]) k1.2 k2.2 (by decide) 21 3 (by rw [tf_21_3]; decide)).symm
  have n113 : μ 113 2 ≤ μ2 113 2 := Int.le_of_eq (zK2 (t := [2]) k1.2 k2.2 (by decide) 113 2 (by rw [tf_113_2]; decide)).symm
  have gS := zGS_keep (μ' := μ2) hS (zK2 k1.2 k2.2)
  have gH := zGH_keep (μ' := μ2) hH (zK2 k1.2 k2.2) n6
  have gT := zGT_keep (μ' := μ2) hT (zK2 k1.2 k2.2)
  have gB := zGB_keep (μ' := μ2) hB (zK2 k1.2 k2.2)
  have gW := zGW_keep (μ' := μ2) hW (zK2 k1.2 k2.2)
  have gP := zGP_keep (μ' := μ2) hP (zK2 k1.2 k2.2) n6 n21
  exact ⟨r, μ1, μ2, e1, e2, k2.1, gS, gH, gT, gB, gF, gW, gP⟩
set_option maxHeartbeats 4000000 in
theorem st_taken {μ : zMem} (hA : zGA μ) (x1 x2 : Int) (b1 : z32 x1) (b2 : z32 x2) : ∃ r μ1 μ2, fX10_taken 5 x1 x2 μ = some (r, μ1) ∧ fX11_taken 129 x1 x2 μ1 = some (r, μ2) ∧ zGA μ2 := by
  obtain ⟨hG, hS, hH, hT, hB, hF, hW, hP⟩ := id hA
  obtain ⟨r, e1, e2⟩ := op_taken hG hF hB x1 x2
  exact ⟨r, μ, μ, e1, e2, hA⟩
set_option maxHeartbeats 4000000 in
theorem st_count {μ : zMem} (hA : zGA μ) (x1 : Int) (b1 : z32 x1) : ∃ r μ1 μ2, fX10_count 5 x1 μ = some (r, μ1) ∧ fX11_count 129 x1 μ1 = some (r, μ2) ∧ zGA μ2 := by
  obtain ⟨hG, hS, hH, hT, hB, hF, hW, hP⟩ := id hA
  obtain ⟨r, e1, e2⟩ := op_count hG hS.2.2.1 hW.1.2.2 hP.1.2.2 hT.2.2.1 hH.2.2.2.1 hB.1.2.2.1 hB.2.2.2.1 x1
  exact ⟨r, μ, μ, e1, e2, hA⟩
