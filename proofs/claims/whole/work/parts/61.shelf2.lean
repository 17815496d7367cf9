/-! ===== shelves: put, element, shift, taken ===== -/
def zlow (s x : Int) : Int := if s = 0 then zw8 (zw32 x) else if s = 1 then zw16 (zw32 x) else if s = 2 then zw32 x else if s = 3 then x else if x = 0 then 0 else 1
theorem zcmp_0 {x y : Int} : (zcmp x y = 0) = (x = y) := by unfold zcmp; split <;> (try split) <;> simp <;> omega
theorem zcmp_le {x y : Int} : (zcmp x y ≤ 0) = (x ≤ y) := by unfold zcmp; split <;> (try split) <;> simp <;> omega
theorem zlow_byte (x : Int) : -128 ≤ zlow 0 x ∧ zlow 0 x ≤ 127 := by
  unfold zlow zw8
  rw [if_pos rfl]
  omega
theorem s8_lowest {μ : zMem} {d : Int} (hd : 0 ≤ d ∧ d < 6) (x : Int) : fX8_lowest (zbF d) x μ = some (zlow (μ (zbF d) 2) x, μ) := by
  unfold fX8_lowest zlow
  simp (disch := omega) only [gfF, zcmp_0, if_true, if_false, not_true_eq_false, not_false_eq_true, zcall_ok, zjn_ok, zbl_0, zbl_1, zu_eq, zu_a, zu_j, if_pos, if_neg, ge_iff_le, gt_iff_lt, ne_eq, Int.cast_ofNat_Int, Int.add_zero, Int.zero_add, Int.reduceAdd, Int.reduceSub, Int.reduceMul, Int.reduceNeg, gf_6, pf_6, vc_6]
  split
  · rfl
  split
  · rfl
  split
  · rfl
  split
  · rfl
  split <;> rfl
theorem s11_asSort {μ : zMem} {s : Int} (hs : 0 ≤ s ∧ s ≤ 4) (x : Int) : fX11_asSort s x μ = some (zlow s x, μ) := by
  unfold fX11_asSort zlow
  simp only [zcmp_0]
  by_cases h0 : s = 0
  · simp (disch := omega) only [if_true, if_false, not_true_eq_false, not_false_eq_true, zcall_ok, zjn_ok, zbl_0, zbl_1, zu_eq, zu_a, zu_j, if_pos, if_neg, ge_iff_le, gt_iff_lt, ne_eq, Int.cast_ofNat_Int, Int.add_zero, Int.zero_add, Int.reduceAdd, Int.reduceSub, Int.reduceMul, Int.reduceNeg, gf_6, pf_6, vc_6]
  by_cases h1 : s = 1
  · simp (disch := omega) only [if_true, if_false, not_true_eq_false, not_false_eq_true, zcall_ok, zjn_ok, zbl_0, zbl_1, zu_eq, zu_a, zu_j, if_pos, if_neg, ge_iff_le, gt_iff_lt, ne_eq, Int.cast_ofNat_Int, Int.add_zero, Int.zero_add, Int.reduceAdd, Int.reduceSub, Int.reduceMul, Int.reduceNeg, gf_6, pf_6, vc_6]
  by_cases h2 : s = 2
  · simp (disch := omega) only [if_true, if_false, not_true_eq_false, not_false_eq_true, zcall_ok, zjn_ok, zbl_0, zbl_1, zu_eq, zu_a, zu_j, if_pos, if_neg, ge_iff_le, gt_iff_lt, ne_eq, Int.cast_ofNat_Int, Int.add_zero, Int.zero_add, Int.reduceAdd, Int.reduceSub, Int.reduceMul, Int.reduceNeg, gf_6, pf_6, vc_6]
  by_cases h3 : s = 3
  · simp (disch := omega) only [if_true, if_false, not_true_eq_false, not_false_eq_true, zcall_ok, zjn_ok, zbl_0, zbl_1, zu_eq, zu_a, zu_j, if_pos, if_neg, ge_iff_le, gt_iff_lt, ne_eq, Int.cast_ofNat_Int, Int.add_zero, Int.zero_add, Int.reduceAdd, Int.reduceSub, Int.reduceMul, Int.reduceNeg, gf_6, pf_6, vc_6]
  by_cases hx : x = 0
  · simp (disch := omega) only [if_true, if_false, not_true_eq_false, not_false_eq_true, zcall_ok, zjn_ok, zbl_0, zbl_1, zu_eq, zu_a, zu_j, if_pos, if_neg, ge_iff_le, gt_iff_lt, ne_eq, Int.cast_ofNat_Int, Int.add_zero, Int.zero_add, Int.reduceAdd, Int.reduceSub, Int.reduceMul, Int.reduceNeg, gf_6, pf_6, vc_6]
  · simp (disch := omega) only [if_true, if_false, not_true_eq_false, not_false_eq_true, zcall_ok, zjn_ok, zbl_0, zbl_1, zu_eq, zu_a, zu_j, if_pos, if_neg, ge_iff_le, gt_iff_lt, ne_eq, Int.cast_ofNat_Int, Int.add_zero, Int.zero_add, Int.reduceAdd, Int.reduceSub, Int.reduceMul, Int.reduceNeg, gf_6, pf_6, vc_6]
theorem s8_hasRange {μ : zMem} {d : Int} (hd : 0 ≤ d ∧ d < 6) {i c : Int} (hi : -2147483648 ≤ i ∧ i < 2147483648) (hc : -2147483648 ≤ c ∧ c < 2147483648) : fX8_hasRange (zbF d) i c μ = some (zb (0 ≤ i ∧ 0 ≤ c ∧ i + c ≤ μ (zbF d) 3), μ) := by
  unfold fX8_hasRange
  simp only [zcmp_gt]
  by_cases h0 : i < 0
  · simp (disch := omega) only [zb_f, if_true, if_false, not_true_eq_false, not_false_eq_true, zcall_ok, zjn_ok, zbl_0, zbl_1, zu_eq, zu_a, zu_j, if_pos, if_neg, ge_iff_le, gt_iff_lt, ne_eq, Int.cast_ofNat_Int, Int.add_zero, Int.zero_add, Int.reduceAdd, Int.reduceSub, Int.reduceMul, Int.reduceNeg, gf_6, pf_6, vc_6]
  by_cases h1 : c < 0
  · simp (disch := omega) only [zb_f, if_true, if_false, not_true_eq_false, not_false_eq_true, zcall_ok, zjn_ok, zbl_0, zbl_1, zu_eq, zu_a, zu_j, if_pos, if_neg, ge_iff_le, gt_iff_lt, ne_eq, Int.cast_ofNat_Int, Int.add_zero, Int.zero_add, Int.reduceAdd, Int.reduceSub, Int.reduceMul, Int.reduceNeg, gf_6, pf_6, vc_6]
  by_cases h2 : i + c ≤ μ (zbF d) 3
  · simp (disch := omega) only [zb_t, gfF, zw64_id, if_true, if_false, not_true_eq_false, not_false_eq_true, zcall_ok, zjn_ok, zbl_0, zbl_1, zu_eq, zu_a, zu_j, if_pos, if_neg, ge_iff_le, gt_iff_lt, ne_eq, Int.cast_ofNat_Int, Int.add_zero, Int.zero_add, Int.reduceAdd, Int.reduceSub, Int.reduceMul, Int.reduceNeg, gf_6, pf_6, vc_6]
  · simp (disch := omega) only [zb_f, gfF, zw64_id, if_true, if_false, not_true_eq_false, not_false_eq_true, zcall_ok, zjn_ok, zbl_0, zbl_1, zu_eq, zu_a, zu_j, if_pos, if_neg, ge_iff_le, gt_iff_lt, ne_eq, Int.cast_ofNat_Int, Int.add_zero, Int.zero_add, Int.reduceAdd, Int.reduceSub, Int.reduceMul, Int.reduceNeg, gf_6, pf_6, vc_6]
theorem s8_isBare {μ : zMem} {d : Int} (hd : 0 ≤ d ∧ d < 6) : fX8_isBare (zbF d) μ = some (zb (μ (zbF d) 1 = -1 ∧ μ (zbF d) 2 = -1), μ) := by
  unfold fX8_isBare
  by_cases h0 : μ (zbF d) 1 = -1
  · by_cases h1 : μ (zbF d) 2 = -1
    · simp (disch := omega) only [zb_t, gfF, if_true, if_false, not_true_eq_false, not_false_eq_true, zcall_ok, zjn_ok, zbl_0, zbl_1, zu_eq, zu_a, zu_j, if_pos, if_neg, ge_iff_le, gt_iff_lt, ne_eq, Int.cast_ofNat_Int, Int.add_zero, Int.zero_add, Int.reduceAdd, Int.reduceSub, Int.reduceMul, Int.reduceNeg, gf_6, pf_6, vc_6]
    · simp (disch := omega) only [zb_f, gfF, if_true, if_false, not_true_eq_false, not_false_eq_true, zcall_ok, zjn_ok, zbl_0, zbl_1, zu_eq, zu_a, zu_j, if_pos, if_neg, ge_iff_le, gt_iff_lt, ne_eq, Int.cast_ofNat_Int, Int.add_zero, Int.zero_add, Int.reduceAdd, Int.reduceSub, Int.reduceMul, Int.reduceNeg, gf_6, pf_6, vc_6]
  · simp (disch := omega) only [zb_f, gfF, if_true, if_false, not_true_eq_false, not_false_eq_true, zcall_ok, zjn_ok, zbl_0, zbl_1, zu_eq, zu_a, zu_j, if_pos, if_neg, ge_iff_le, gt_iff_lt, ne_eq, Int.cast_ofNat_Int, Int.add_zero, Int.zero_add, Int.reduceAdd, Int.reduceSub, Int.reduceMul, Int.reduceNeg, gf_6, pf_6, vc_6]
theorem s8_holdsRow {μ : zMem} {d : Int} (hd : 0 ≤ d ∧ d < 6) : fX8_holdsRow (zbF d) μ = some (zb (μ (zbF d) 2 ≠ -1), μ) := by
  unfold fX8_holdsRow
  by_cases h1 : μ (zbF d) 2 = -1
  · simp (disch := omega) only [zb_f, gfF, if_true, if_false, not_true_eq_false, not_false_eq_true, zcall_ok, zjn_ok, zbl_0, zbl_1, zu_eq, zu_a, zu_j, if_pos, if_neg, ge_iff_le, gt_iff_lt, ne_eq, Int.cast_ofNat_Int, Int.add_zero, Int.zero_add, Int.reduceAdd, Int.reduceSub, Int.reduceMul, Int.reduceNeg, gf_6, pf_6, vc_6]
  · simp (disch := omega) only [zb_t, gfF, if_true, if_false, not_true_eq_false, not_false_eq_true, zcall_ok, zjn_ok, zbl_0, zbl_1, zu_eq, zu_a, zu_j, if_pos, if_neg, ge_iff_le, gt_iff_lt, ne_eq, Int.cast_ofNat_Int, Int.add_zero, Int.zero_add, Int.reduceAdd, Int.reduceSub, Int.reduceMul, Int.reduceNeg, gf_6, pf_6, vc_6]
/-- why a place of a shelf is refused: 0 for not at all -/
def zpr (μ : zMem) (d x : Int) : Int := if 0 ≤ d ∧ d < 6 then (if μ (zbF d) 2 = -1 then (if μ (zbF d) 1 = -1 then -11 else -12) else if 0 ≤ x ∧ x < μ (zbF d) 3 then 0 else -13) else -1
theorem s10_refusal {μ : zMem} (hG : zG0 μ) (hF : zGF μ) {d x : Int} (hx : -2147483648 ≤ x ∧ x < 2147483648) : fX10_placeRefusal 5 d x μ = some (zpr μ d x, μ) := by
  unfold fX10_placeRefusal zpr
  by_cases hd : 0 ≤ d ∧ d < 6
  · rcases hF.2.2 d hd.1 hd.2 with ⟨a, b, c, e⟩ | ⟨a, b, c, e, f, g, h, i⟩
    · by_cases hb : μ (zbF d) 1 = -1
      · simp (disch := omega) only [s10_isShelf, zb_t, g_116 hG, vcF, s8_isBare, if_true, if_false, not_true_eq_false, not_false_eq_true, zcall_ok, zjn_ok, zbl_0, zbl_1, zu_eq, zu_a, zu_j, if_pos, if_neg, ge_iff_le, gt_iff_lt, ne_eq, Int.cast_ofNat_Int, Int.add_zero, Int.zero_add, Int.reduceAdd, Int.reduceSub, Int.reduceMul, Int.reduceNeg, gf_5, pf_5, vc_5, al_116, ln_116, g_5_0 hG, g_5_1 hG, g_5_2 hG, g_5_3 hG, g_5_4 hG, g_5_5 hG, g_5_6 hG, g_116_0 hG, g_116_1 hG, g_116_2 hG, g_116_3 hG, g_116_4 hG, g_116_5 hG]
      · simp (disch := omega) only [s10_isShelf, zb_t, zb_f, g_116 hG, vcF, s8_isBare, s8_holdsRow, if_true, if_false, not_true_eq_false, not_false_eq_true, zcall_ok, zjn_ok, zbl_0, zbl_1, zu_eq, zu_a, zu_j, if_pos, if_neg, ge_iff_le, gt_iff_lt, ne_eq, Int.cast_ofNat_Int, Int.add_zero, Int.zero_add, Int.reduceAdd, Int.reduceSub, Int.reduceMul, Int.reduceNeg, gf_5, pf_5, vc_5, al_116, ln_116, g_5_0 hG, g_5_1 hG, g_5_2 hG, g_5_3 hG, g_5_4 hG, g_5_5 hG, g_5_6 hG, g_116_0 hG, g_116_1 hG, g_116_2 hG, g_116_3 hG, g_116_4 hG, g_116_5 hG]
    · by_cases hr : 0 ≤ x ∧ x < μ (zbF d) 3
      · simp (disch := omega) only [s10_isShelf, zb_t, zb_f, g_116 hG, vcF, s8_isBare, s8_holdsRow, s8_hasRange, if_true, if_false, not_true_eq_false, not_false_eq_true, zcall_ok, zjn_ok, zbl_0, zbl_1, zu_eq, zu_a, zu_j, if_pos, if_neg, ge_iff_le, gt_iff_lt, ne_eq, Int.cast_ofNat_Int, Int.add_zero, Int.zero_add, Int.reduceAdd, Int.reduceSub, Int.reduceMul, Int.reduceNeg, gf_5, pf_5, vc_5, al_116, ln_116, g_5_0 hG, g_5_1 hG, g_5_2 hG, g_5_3 hG, g_5_4 hG, g_5_5 hG, g_5_6 hG, g_116_0 hG, g_116_1 hG, g_116_2 hG, g_116_3 hG, g_116_4 hG, g_116_5 hG]
      · simp (disch := omega) only [s10_isShelf, zb_t, zb_f, g_116 hG, vcF, s8_isBare, s8_holdsRow, s8_hasRange, if_true, if_false, not_true_eq_false, not_false_eq_true, zcall_ok, zjn_ok, zbl_0, zbl_1, zu_eq, zu_a, zu_j, if_pos, if_neg, ge_iff_le, gt_iff_lt, ne_eq, Int.cast_ofNat_Int, Int.add_zero, Int.zero_add, Int.reduceAdd, Int.reduceSub, Int.reduceMul, Int.reduceNeg, gf_5, pf_5, vc_5, al_116, ln_116, g_5_0 hG, g_5_1 hG, g_5_2 hG, g_5_3 hG, g_5_4 hG, g_5_5 hG, g_5_6 hG, g_116_0 hG, g_116_1 hG, g_116_2 hG, g_116_3 hG, g_116_4 hG, g_116_5 hG]
  · simp (disch := omega) only [s10_isShelf, zb_f, if_true, if_false, not_true_eq_false, not_false_eq_true, zcall_ok, zjn_ok, zbl_0, zbl_1, zu_eq, zu_a, zu_j, if_pos, if_neg, ge_iff_le, gt_iff_lt, ne_eq, Int.cast_ofNat_Int, Int.add_zero, Int.zero_add, Int.reduceAdd, Int.reduceSub, Int.reduceMul, Int.reduceNeg, gf_5, pf_5, vc_5, al_116, ln_116, g_5_0 hG, g_5_1 hG, g_5_2 hG, g_5_3 hG, g_5_4 hG, g_5_5 hG, g_5_6 hG, g_116_0 hG, g_116_1 hG, g_116_2 hG, g_116_3 hG, g_116_4 hG, g_116_5 hG]
theorem s11_refusal {μ : zMem} (hG : zG0 μ) (hF : zGF μ) {d x : Int} : fX11_refusal 129 d x μ = some (zpr μ d x, μ) := by
  unfold fX11_refusal zpr
  have hN := hF.2.1
  by_cases hd : 0 ≤ d ∧ d < 6
  · rcases hF.2.2 d hd.1 hd.2 with ⟨a, b, c, e⟩ | ⟨a, b, c, e, f, g, h, i⟩
    · by_cases hb : μ (zbF d) 1 = -1
      · simp (disch := omega) only [s11_isShelf, zb_t, if_true, if_false, not_true_eq_false, not_false_eq_true, zcall_ok, zjn_ok, zbl_0, zbl_1, zu_eq, zu_a, zu_j, if_pos, if_neg, ge_iff_le, gt_iff_lt, ne_eq, Int.cast_ofNat_Int, Int.add_zero, Int.zero_add, Int.reduceAdd, Int.reduceSub, Int.reduceMul, Int.reduceNeg, gf_129, pf_129, vc_129, al_148, as_148, ln_148, al_149, as_149, ln_149, g_129_0 hG, g_129_1 hG, g_129_2 hG, g_129_3 hG, g_129_7 hG, g_129_10 hG, g_129_11 hG, g_129_12 hG, g_129_13 hG, g_129_19 hG, g_129_21 hG, g_129_22 hG, g_129_23 hG, g_129_24 hG, g_129_25 hG, g_129_26 hG, g_129_28 hG, g_129_29 hG, g_129_33 hG, g_129_34 hG, g_129_35 hG, g_129_36 hG]
      · simp (disch := omega) only [s11_isShelf, zb_t, if_true, if_false, not_true_eq_false, not_false_eq_true, zcall_ok, zjn_ok, zbl_0, zbl_1, zu_eq, zu_a, zu_j, if_pos, if_neg, ge_iff_le, gt_iff_lt, ne_eq, Int.cast_ofNat_Int, Int.add_zero, Int.zero_add, Int.reduceAdd, Int.reduceSub, Int.reduceMul, Int.reduceNeg, gf_129, pf_129, vc_129, al_148, as_148, ln_148, al_149, as_149, ln_149, g_129_0 hG, g_129_1 hG, g_129_2 hG, g_129_3 hG, g_129_7 hG, g_129_10 hG, g_129_11 hG, g_129_12 hG, g_129_13 hG, g_129_19 hG, g_129_21 hG, g_129_22 hG, g_129_23 hG, g_129_24 hG, g_129_25 hG, g_129_26 hG, g_129_28 hG, g_129_29 hG, g_129_33 hG, g_129_34 hG, g_129_35 hG, g_129_36 hG]
    · by_cases h0 : x < 0
      · simp (disch := omega) only [s11_isShelf, zb_t, if_true, if_false, not_true_eq_false, not_false_eq_true, zcall_ok, zjn_ok, zbl_0, zbl_1, zu_eq, zu_a, zu_j, if_pos, if_neg, ge_iff_le, gt_iff_lt, ne_eq, Int.cast_ofNat_Int, Int.add_zero, Int.zero_add, Int.reduceAdd, Int.reduceSub, Int.reduceMul, Int.reduceNeg, gf_129, pf_129, vc_129, al_148, as_148, ln_148, al_149, as_149, ln_149, g_129_0 hG, g_129_1 hG, g_129_2 hG, g_129_3 hG, g_129_7 hG, g_129_10 hG, g_129_11 hG, g_129_12 hG, g_129_13 hG, g_129_19 hG, g_129_21 hG, g_129_22 hG, g_129_23 hG, g_129_24 hG, g_129_25 hG, g_129_26 hG, g_129_28 hG, g_129_29 hG, g_129_33 hG, g_129_34 hG, g_129_35 hG, g_129_36 hG]
      by_cases h1 : x < μ (zbF d) 3
      · simp (disch := omega) only [s11_isShelf, zb_t, if_true, if_false, not_true_eq_false, not_false_eq_true, zcall_ok, zjn_ok, zbl_0, zbl_1, zu_eq, zu_a, zu_j, if_pos, if_neg, ge_iff_le, gt_iff_lt, ne_eq, Int.cast_ofNat_Int, Int.add_zero, Int.zero_add, Int.reduceAdd, Int.reduceSub, Int.reduceMul, Int.reduceNeg, gf_129, pf_129, vc_129, al_148, as_148, ln_148, al_149, as_149, ln_149, g_129_0 hG, g_129_1 hG, g_129_2 hG, g_129_3 hG, g_129_7 hG, g_129_10 hG, g_129_11 hG, g_129_12 hG, g_129_13 hG, g_129_19 hG, g_129_21 hG, g_129_22 hG, g_129_23 hG, g_129_24 hG, g_129_25 hG, g_129_26 hG, g_129_28 hG, g_129_29 hG, g_129_33 hG, g_129_34 hG, g_129_35 hG, g_129_36 hG]
      · simp (disch := omega) only [s11_isShelf, zb_t, if_true, if_false, not_true_eq_false, not_false_eq_true, zcall_ok, zjn_ok, zbl_0, zbl_1, zu_eq, zu_a, zu_j, if_pos, if_neg, ge_iff_le, gt_iff_lt, ne_eq, Int.cast_ofNat_Int, Int.add_zero, Int.zero_add, Int.reduceAdd, Int.reduceSub, Int.reduceMul, Int.reduceNeg, gf_129, pf_129, vc_129, al_148, as_148, ln_148, al_149, as_149, ln_149, g_129_0 hG, g_129_1 hG, g_129_2 hG, g_129_3 hG, g_129_7 hG, g_129_10 hG, g_129_11 hG, g_129_12 hG, g_129_13 hG, g_129_19 hG, g_129_21 hG, g_129_22 hG, g_129_23 hG, g_129_24 hG, g_129_25 hG, g_129_26 hG, g_129_28 hG, g_129_29 hG, g_129_33 hG, g_129_34 hG, g_129_35 hG, g_129_36 hG]
  · simp (disch := omega) only [s11_isShelf, zb_f, if_true, if_false, not_true_eq_false, not_false_eq_true, zcall_ok, zjn_ok, zbl_0, zbl_1, zu_eq, zu_a, zu_j, if_pos, if_neg, ge_iff_le, gt_iff_lt, ne_eq, Int.cast_ofNat_Int, Int.add_zero, Int.zero_add, Int.reduceAdd, Int.reduceSub, Int.reduceMul, Int.reduceNeg, gf_129, pf_129, vc_129, al_148, as_148, ln_148, g_129_0 hG, g_129_1 hG, g_129_2 hG, g_129_3 hG, g_129_7 hG, g_129_10 hG, g_129_11 hG, g_129_12 hG, g_129_13 hG, g_129_19 hG, g_129_21 hG, g_129_22 hG, g_129_23 hG, g_129_24 hG, g_129_25 hG, g_129_26 hG, g_129_28 hG, g_129_29 hG, g_129_33 hG, g_129_34 hG, g_129_35 hG, g_129_36 hG]
theorem zpr_0 {μ : zMem} (hF : zGF μ) {d x : Int} (h : zpr μ d x = 0) : (0 ≤ d ∧ d < 6) ∧ (0 ≤ x ∧ x < μ (zbF d) 3) ∧ (0 ≤ μ (zbF d) 2 ∧ μ (zbF d) 2 ≤ 4) ∧ μ (zbF d) 3 ≤ 60 ∧ μ 148 d = 50 + μ (zbF d) 2 ∧ μ 150 (60 * d + x) = μ (zbF d + 1) x := by
  unfold zpr at h
  by_cases hd : 0 ≤ d ∧ d < 6
  · rw [if_pos hd] at h
    rcases hF.2.2 d hd.1 hd.2 with ⟨a, b, c, e⟩ | ⟨a, b, c, e, f, g, h', i⟩
    · rw [if_pos a] at h
      split at h <;> omega
    · rw [if_neg (by omega)] at h
      by_cases hr : 0 ≤ x ∧ x < μ (zbF d) 3
      · exact ⟨hd, hr, ⟨a, b⟩, g, e, (i x hr.1 hr.2).1⟩
      · rw [if_neg hr] at h
        omega
  · rw [if_neg hd] at h
    omega
theorem op_element {μ : zMem} (hG : zG0 μ) (hF : zGF μ) {d x : Int} (hx : -2147483648 ≤ x ∧ x < 2147483648) : ∃ r, fX10_element 5 d x μ = some (r, μ) ∧ fX11_element 129 d x μ = some (r, μ) := by
  unfold fX10_element fX11_element fX8_at
  by_cases h : zpr μ d x = 0
  · obtain ⟨hd, hr, hs, hl, h148, h150⟩ := zpr_0 hF h
    refine ⟨μ (zbF d + 1) x, ?_, ?_⟩
    · simp (disch := omega) only [s10_refusal hG hF, g_116 hG, vcF, s8_hasRange, zb_t, gfF, g_F0 hG, alF, if_true, if_false, not_true_eq_false, not_false_eq_true, zcall_ok, zjn_ok, zbl_0, zbl_1, zu_eq, zu_a, zu_j, if_pos, if_neg, ge_iff_le, gt_iff_lt, ne_eq, Int.cast_ofNat_Int, Int.add_zero, Int.zero_add, Int.reduceAdd, Int.reduceSub, Int.reduceMul, Int.reduceNeg, gf_5, pf_5, vc_5, al_116, ln_116, g_5_0 hG, g_5_1 hG, g_5_2 hG, g_5_3 hG, g_5_4 hG, g_5_5 hG, g_5_6 hG, g_116_0 hG, g_116_1 hG, g_116_2 hG, g_116_3 hG, g_116_4 hG, g_116_5 hG]
    · simp (disch := omega) only [s11_refusal hG hF, zw32_id, if_true, if_false, not_true_eq_false, not_false_eq_true, zcall_ok, zjn_ok, zbl_0, zbl_1, zu_eq, zu_a, zu_j, if_pos, if_neg, ge_iff_le, gt_iff_lt, ne_eq, Int.cast_ofNat_Int, Int.add_zero, Int.zero_add, Int.reduceAdd, Int.reduceSub, Int.reduceMul, Int.reduceNeg, gf_129, pf_129, vc_129, al_150, as_150, ln_150, g_129_0 hG, g_129_1 hG, g_129_2 hG, g_129_3 hG, g_129_7 hG, g_129_10 hG, g_129_11 hG, g_129_12 hG, g_129_13 hG, g_129_19 hG, g_129_21 hG, g_129_22 hG, g_129_23 hG, g_129_24 hG, g_129_25 hG, g_129_26 hG, g_129_28 hG, g_129_29 hG, g_129_33 hG, g_129_34 hG, g_129_35 hG, g_129_36 hG]
      rw [h150]
  · refine ⟨-9223372036854775808, ?_, ?_⟩
    · simp (disch := omega) only [s10_refusal hG hF, if_true, if_false, not_true_eq_false, not_false_eq_true, zcall_ok, zjn_ok, zbl_0, zbl_1, zu_eq, zu_a, zu_j, if_pos, if_neg, ge_iff_le, gt_iff_lt, ne_eq, Int.cast_ofNat_Int, Int.add_zero, Int.zero_add, Int.reduceAdd, Int.reduceSub, Int.reduceMul, Int.reduceNeg, gf_5, pf_5, vc_5, al_116, ln_116, g_5_0 hG, g_5_1 hG, g_5_2 hG, g_5_3 hG, g_5_4 hG, g_5_5 hG, g_5_6 hG, g_116_0 hG, g_116_1 hG, g_116_2 hG, g_116_3 hG, g_116_4 hG, g_116_5 hG]
    · simp (disch := omega) only [s11_refusal hG hF, if_true, if_false, not_true_eq_false, not_false_eq_true, zcall_ok, zjn_ok, zbl_0, zbl_1, zu_eq, zu_a, zu_j, if_pos, if_neg, ge_iff_le, gt_iff_lt, ne_eq, Int.cast_ofNat_Int, Int.add_zero, Int.zero_add, Int.reduceAdd, Int.reduceSub, Int.reduceMul, Int.reduceNeg, gf_129, pf_129, vc_129, al_150, as_150, ln_150, g_129_0 hG, g_129_1 hG, g_129_2 hG, g_129_3 hG, g_129_7 hG, g_129_10 hG, g_129_11 hG, g_129_12 hG, g_129_13 hG, g_129_19 hG, g_129_21 hG, g_129_22 hG, g_129_23 hG, g_129_24 hG, g_129_25 hG, g_129_26 hG, g_129_28 hG, g_129_29 hG, g_129_33 hG, g_129_34 hG, g_129_35 hG, g_129_36 hG]
theorem op_put {μ : zMem} (hG : zG0 μ) (hF : zGF μ) {d x : Int} (hx : -2147483648 ≤ x ∧ x < 2147483648) (v : Int) : ∃ r μ1 μ2, fX10_put 5 d x v μ = some (r, μ1) ∧ fX11_put 129 d x v μ1 = some (r, μ2) ∧ zGF μ2 := by
  by_cases h : zpr μ d x = 0
  · obtain ⟨hd, hr, hs, hl, h148, h150⟩ := zpr_0 hF h
    have hz := zbF_eq d
    have e10 : fX10_put 5 d x v μ = some (1, zupd μ (zbF d + 1) x (zlow (μ (zbF d) 2) v)) := by
      unfold fX10_put fX8_set
      simp (disch := omega) only [s10_refusal hG hF, g_116 hG, vcF, s8_hasRange, zb_t, gfF, g_F0 hG, asF, s8_lowest, if_true, if_false, not_true_eq_false, not_false_eq_true, zcall_ok, zjn_ok, zbl_0, zbl_1, zu_eq, zu_a, zu_j, if_pos, if_neg, ge_iff_le, gt_iff_lt, ne_eq, Int.cast_ofNat_Int, Int.add_zero, Int.zero_add, Int.reduceAdd, Int.reduceSub, Int.reduceMul, Int.reduceNeg, gf_5, pf_5, vc_5, al_116, ln_116, g_5_0 hG, g_5_1 hG, g_5_2 hG, g_5_3 hG, g_5_4 hG, g_5_5 hG, g_5_6 hG, g_116_0 hG, g_116_1 hG, g_116_2 hG, g_116_3 hG, g_116_4 hG, g_116_5 hG]
    have hz1 : ∀ e : Int, zbF e = 117 + 2 * e := fun _ => rfl
    refine ⟨1, _, zupd (zupd μ (zbF d + 1) x (zlow (μ (zbF d) 2) v)) 150 (60 * d + x) (zlow (μ (zbF d) 2) v), e10, ?_, ?_⟩
    · -- the reference asks the same of a memory changed at that element alone
      have hr11 : fX11_refusal 129 d x (zupd μ (zbF d + 1) x (zlow (μ (zbF d) 2) v)) = some (0, zupd μ (zbF d + 1) x (zlow (μ (zbF d) 2) v)) := by
        have h149 : μ 149 d = μ (zbF d) 3 := by
          rcases hF.2.2 d hd.1 hd.2 with ⟨a, b, c, e⟩ | ⟨a, b, c, e, f, g, h', i⟩
          · omega
          · exact h'
        unfold fX11_refusal
        simp (disch := omega) only [s11_isShelf, zb_t, if_true, if_false, not_true_eq_false, not_false_eq_true, zcall_ok, zjn_ok, zbl_0, zbl_1, zu_eq, zu_a, zu_j, if_pos, if_neg, ge_iff_le, gt_iff_lt, ne_eq, Int.cast_ofNat_Int, Int.add_zero, Int.zero_add, Int.reduceAdd, Int.reduceSub, Int.reduceMul, Int.reduceNeg, gf_129, pf_129, vc_129, al_148, as_148, ln_148, al_149, as_149, ln_149, g_129_0 hG, g_129_1 hG, g_129_2 hG, g_129_3 hG, g_129_7 hG, g_129_10 hG, g_129_11 hG, g_129_12 hG, g_129_13 hG, g_129_19 hG, g_129_21 hG, g_129_22 hG, g_129_23 hG, g_129_24 hG, g_129_25 hG, g_129_26 hG, g_129_28 hG, g_129_29 hG, g_129_33 hG, g_129_34 hG, g_129_35 hG, g_129_36 hG]
      unfold fX11_put
      simp (disch := omega) only [hr11, zw32_id, h148, if_true, if_false, not_true_eq_false, not_false_eq_true, zcall_ok, zjn_ok, zbl_0, zbl_1, zu_eq, zu_a, zu_j, if_pos, if_neg, ge_iff_le, gt_iff_lt, ne_eq, Int.cast_ofNat_Int, Int.add_zero, Int.zero_add, Int.reduceAdd, Int.reduceSub, Int.reduceMul, Int.reduceNeg, gf_129, pf_129, vc_129, al_148, as_148, ln_148, al_150, as_150, ln_150, g_129_0 hG, g_129_1 hG, g_129_2 hG, g_129_3 hG, g_129_7 hG, g_129_10 hG, g_129_11 hG, g_129_12 hG, g_129_13 hG, g_129_19 hG, g_129_21 hG, g_129_22 hG, g_129_23 hG, g_129_24 hG, g_129_25 hG, g_129_26 hG, g_129_28 hG, g_129_29 hG, g_129_33 hG, g_129_34 hG, g_129_35 hG, g_129_36 hG]
      rw [show 50 + μ (zbF d) 2 - 50 = μ (zbF d) 2 by omega]
      simp (disch := omega) only [s11_asSort, if_true, if_false, not_true_eq_false, not_false_eq_true, zcall_ok, zjn_ok, zbl_0, zbl_1, zu_eq, zu_a, zu_j, if_pos, if_neg, ge_iff_le, gt_iff_lt, ne_eq, Int.cast_ofNat_Int, Int.add_zero, Int.zero_add, Int.reduceAdd, Int.reduceSub, Int.reduceMul, Int.reduceNeg, gf_129, pf_129, vc_129, al_148, as_148, ln_148, al_150, as_150, ln_150, g_129_0 hG, g_129_1 hG, g_129_2 hG, g_129_3 hG, g_129_7 hG, g_129_10 hG, g_129_11 hG, g_129_12 hG, g_129_13 hG, g_129_19 hG, g_129_21 hG, g_129_22 hG, g_129_23 hG, g_129_24 hG, g_129_25 hG, g_129_26 hG, g_129_28 hG, g_129_29 hG, g_129_33 hG, g_129_34 hG, g_129_35 hG, g_129_36 hG]
    · refine zGF_upd hF (d := d) (by simp (disch := omega) only [if_true, if_false, not_true_eq_false, not_false_eq_true, zcall_ok, zjn_ok, zbl_0, zbl_1, zu_eq, zu_a, zu_j, if_pos, if_neg, ge_iff_le, gt_iff_lt, ne_eq, Int.cast_ofNat_Int, Int.add_zero, Int.zero_add, Int.reduceAdd, Int.reduceSub, Int.reduceMul, Int.reduceNeg, gf_6, pf_6, vc_6]) (fun e e0 e1 he => ?_) ?_
      · have hz' := zbF_eq e
        refine ⟨by simp (disch := omega) only [if_true, if_false, not_true_eq_false, not_false_eq_true, zcall_ok, zjn_ok, zbl_0, zbl_1, zu_eq, zu_a, zu_j, if_pos, if_neg, ge_iff_le, gt_iff_lt, ne_eq, Int.cast_ofNat_Int, Int.add_zero, Int.zero_add, Int.reduceAdd, Int.reduceSub, Int.reduceMul, Int.reduceNeg, gf_6, pf_6, vc_6], by simp (disch := omega) only [if_true, if_false, not_true_eq_false, not_false_eq_true, zcall_ok, zjn_ok, zbl_0, zbl_1, zu_eq, zu_a, zu_j, if_pos, if_neg, ge_iff_le, gt_iff_lt, ne_eq, Int.cast_ofNat_Int, Int.add_zero, Int.zero_add, Int.reduceAdd, Int.reduceSub, Int.reduceMul, Int.reduceNeg, gf_6, pf_6, vc_6], by simp (disch := omega) only [if_true, if_false, not_true_eq_false, not_false_eq_true, zcall_ok, zjn_ok, zbl_0, zbl_1, zu_eq, zu_a, zu_j, if_pos, if_neg, ge_iff_le, gt_iff_lt, ne_eq, Int.cast_ofNat_Int, Int.add_zero, Int.zero_add, Int.reduceAdd, Int.reduceSub, Int.reduceMul, Int.reduceNeg, gf_6, pf_6, vc_6], by simp (disch := omega) only [if_true, if_false, not_true_eq_false, not_false_eq_true, zcall_ok, zjn_ok, zbl_0, zbl_1, zu_eq, zu_a, zu_j, if_pos, if_neg, ge_iff_le, gt_iff_lt, ne_eq, Int.cast_ofNat_Int, Int.add_zero, Int.zero_add, Int.reduceAdd, Int.reduceSub, Int.reduceMul, Int.reduceNeg, gf_6, pf_6, vc_6], by simp (disch := omega) only [if_true, if_false, not_true_eq_false, not_false_eq_true, zcall_ok, zjn_ok, zbl_0, zbl_1, zu_eq, zu_a, zu_j, if_pos, if_neg, ge_iff_le, gt_iff_lt, ne_eq, Int.cast_ofNat_Int, Int.add_zero, Int.zero_add, Int.reduceAdd, Int.reduceSub, Int.reduceMul, Int.reduceNeg, gf_6, pf_6, vc_6], fun k k0 k1 => ⟨by simp (disch := omega) only [if_true, if_false, not_true_eq_false, not_false_eq_true, zcall_ok, zjn_ok, zbl_0, zbl_1, zu_eq, zu_a, zu_j, if_pos, if_neg, ge_iff_le, gt_iff_lt, ne_eq, Int.cast_ofNat_Int, Int.add_zero, Int.zero_add, Int.reduceAdd, Int.reduceSub, Int.reduceMul, Int.reduceNeg, gf_6, pf_6, vc_6], by simp (disch := omega) only [if_true, if_false, not_true_eq_false, not_false_eq_true, zcall_ok, zjn_ok, zbl_0, zbl_1, zu_eq, zu_a, zu_j, if_pos, if_neg, ge_iff_le, gt_iff_lt, ne_eq, Int.cast_ofNat_Int, Int.add_zero, Int.zero_add, Int.reduceAdd, Int.reduceSub, Int.reduceMul, Int.reduceNeg, gf_6, pf_6, vc_6]⟩⟩
      · rcases hF.2.2 d hd.1 hd.2 with ⟨a, b, c, e⟩ | ⟨a, b, c, e, f, g, h', i⟩
        · omega
        · refine Or.inr ⟨?_, ?_, ?_, ?_, ?_, ?_, ?_, fun k k0 k1 => ?_⟩
          · simp (disch := omega) only [if_true, if_false, not_true_eq_false, not_false_eq_true, zcall_ok, zjn_ok, zbl_0, zbl_1, zu_eq, zu_a, zu_j, if_pos, if_neg, ge_iff_le, gt_iff_lt, ne_eq, Int.cast_ofNat_Int, Int.add_zero, Int.zero_add, Int.reduceAdd, Int.reduceSub, Int.reduceMul, Int.reduceNeg, gf_6, pf_6, vc_6]; exact a
          · simp (disch := omega) only [if_true, if_false, not_true_eq_false, not_false_eq_true, zcall_ok, zjn_ok, zbl_0, zbl_1, zu_eq, zu_a, zu_j, if_pos, if_neg, ge_iff_le, gt_iff_lt, ne_eq, Int.cast_ofNat_Int, Int.add_zero, Int.zero_add, Int.reduceAdd, Int.reduceSub, Int.reduceMul, Int.reduceNeg, gf_6, pf_6, vc_6]; exact b
          · simp (disch := omega) only [if_true, if_false, not_true_eq_false, not_false_eq_true, zcall_ok, zjn_ok, zbl_0, zbl_1, zu_eq, zu_a, zu_j, if_pos, if_neg, ge_iff_le, gt_iff_lt, ne_eq, Int.cast_ofNat_Int, Int.add_zero, Int.zero_add, Int.reduceAdd, Int.reduceSub, Int.reduceMul, Int.reduceNeg, gf_6, pf_6, vc_6]; exact c
          · simp (disch := omega) only [if_true, if_false, not_true_eq_false, not_false_eq_true, zcall_ok, zjn_ok, zbl_0, zbl_1, zu_eq, zu_a, zu_j, if_pos, if_neg, ge_iff_le, gt_iff_lt, ne_eq, Int.cast_ofNat_Int, Int.add_zero, Int.zero_add, Int.reduceAdd, Int.reduceSub, Int.reduceMul, Int.reduceNeg, gf_6, pf_6, vc_6]; exact e
          · simp (disch := omega) only [if_true, if_false, not_true_eq_false, not_false_eq_true, zcall_ok, zjn_ok, zbl_0, zbl_1, zu_eq, zu_a, zu_j, if_pos, if_neg, ge_iff_le, gt_iff_lt, ne_eq, Int.cast_ofNat_Int, Int.add_zero, Int.zero_add, Int.reduceAdd, Int.reduceSub, Int.reduceMul, Int.reduceNeg, gf_6, pf_6, vc_6]; exact f
          · simp (disch := omega) only [if_true, if_false, not_true_eq_false, not_false_eq_true, zcall_ok, zjn_ok, zbl_0, zbl_1, zu_eq, zu_a, zu_j, if_pos, if_neg, ge_iff_le, gt_iff_lt, ne_eq, Int.cast_ofNat_Int, Int.add_zero, Int.zero_add, Int.reduceAdd, Int.reduceSub, Int.reduceMul, Int.reduceNeg, gf_6, pf_6, vc_6]; exact g
          · simp (disch := omega) only [if_true, if_false, not_true_eq_false, not_false_eq_true, zcall_ok, zjn_ok, zbl_0, zbl_1, zu_eq, zu_a, zu_j, if_pos, if_neg, ge_iff_le, gt_iff_lt, ne_eq, Int.cast_ofNat_Int, Int.add_zero, Int.zero_add, Int.reduceAdd, Int.reduceSub, Int.reduceMul, Int.reduceNeg, gf_6, pf_6, vc_6]; exact h'
          · have k1 : k < μ (zbF d) 3 := by revert k1; simp (disch := omega) only [if_true, if_false, not_true_eq_false, not_false_eq_true, zcall_ok, zjn_ok, zbl_0, zbl_1, zu_eq, zu_a, zu_j, if_pos, if_neg, ge_iff_le, gt_iff_lt, ne_eq, Int.cast_ofNat_Int, Int.add_zero, Int.zero_add, Int.reduceAdd, Int.reduceSub, Int.reduceMul, Int.reduceNeg, gf_6, pf_6, vc_6]; exact id
            by_cases hk : k = x
            · subst hk
              refine ⟨?_, fun q => ?_⟩
              · simp (disch := omega) only [if_true, if_false, not_true_eq_false, not_false_eq_true, zcall_ok, zjn_ok, zbl_0, zbl_1, zu_eq, zu_a, zu_j, if_pos, if_neg, ge_iff_le, gt_iff_lt, ne_eq, Int.cast_ofNat_Int, Int.add_zero, Int.zero_add, Int.reduceAdd, Int.reduceSub, Int.reduceMul, Int.reduceNeg, gf_6, pf_6, vc_6]
              · have q : μ (zbF d) 2 = 0 := by revert q; simp (disch := omega) only [if_true, if_false, not_true_eq_false, not_false_eq_true, zcall_ok, zjn_ok, zbl_0, zbl_1, zu_eq, zu_a, zu_j, if_pos, if_neg, ge_iff_le, gt_iff_lt, ne_eq, Int.cast_ofNat_Int, Int.add_zero, Int.zero_add, Int.reduceAdd, Int.reduceSub, Int.reduceMul, Int.reduceNeg, gf_6, pf_6, vc_6]; exact id
                rw [q]
                simp (disch := omega) only [if_true, if_false, not_true_eq_false, not_false_eq_true, zcall_ok, zjn_ok, zbl_0, zbl_1, zu_eq, zu_a, zu_j, if_pos, if_neg, ge_iff_le, gt_iff_lt, ne_eq, Int.cast_ofNat_Int, Int.add_zero, Int.zero_add, Int.reduceAdd, Int.reduceSub, Int.reduceMul, Int.reduceNeg, gf_6, pf_6, vc_6]
                exact zlow_byte v
            · have := i k k0 k1
              refine ⟨?_, fun q => ?_⟩
              · simp (disch := omega) only [if_true, if_false, not_true_eq_false, not_false_eq_true, zcall_ok, zjn_ok, zbl_0, zbl_1, zu_eq, zu_a, zu_j, if_pos, if_neg, ge_iff_le, gt_iff_lt, ne_eq, Int.cast_ofNat_Int, Int.add_zero, Int.zero_add, Int.reduceAdd, Int.reduceSub, Int.reduceMul, Int.reduceNeg, gf_6, pf_6, vc_6]
                exact this.1
              · have q : μ (zbF d) 2 = 0 := by revert q; simp (disch := omega) only [if_true, if_false, not_true_eq_false, not_false_eq_true, zcall_ok, zjn_ok, zbl_0, zbl_1, zu_eq, zu_a, zu_j, if_pos, if_neg, ge_iff_le, gt_iff_lt, ne_eq, Int.cast_ofNat_Int, Int.add_zero, Int.zero_add, Int.reduceAdd, Int.reduceSub, Int.reduceMul, Int.reduceNeg, gf_6, pf_6, vc_6]; exact id
                simp (disch := omega) only [if_true, if_false, not_true_eq_false, not_false_eq_true, zcall_ok, zjn_ok, zbl_0, zbl_1, zu_eq, zu_a, zu_j, if_pos, if_neg, ge_iff_le, gt_iff_lt, ne_eq, Int.cast_ofNat_Int, Int.add_zero, Int.zero_add, Int.reduceAdd, Int.reduceSub, Int.reduceMul, Int.reduceNeg, gf_6, pf_6, vc_6]
                exact this.2 q
  · have h11 := s11_refusal hG hF (d := d) (x := x)
    refine ⟨zpr μ d x, μ, μ, ?_, ?_, hF⟩
    · unfold fX10_put
      simp (disch := omega) only [s10_refusal hG hF, if_true, if_false, not_true_eq_false, not_false_eq_true, zcall_ok, zjn_ok, zbl_0, zbl_1, zu_eq, zu_a, zu_j, if_pos, if_neg, ge_iff_le, gt_iff_lt, ne_eq, Int.cast_ofNat_Int, Int.add_zero, Int.zero_add, Int.reduceAdd, Int.reduceSub, Int.reduceMul, Int.reduceNeg, gf_5, pf_5, vc_5, al_116, ln_116, g_5_0 hG, g_5_1 hG, g_5_2 hG, g_5_3 hG, g_5_4 hG, g_5_5 hG, g_5_6 hG, g_116_0 hG, g_116_1 hG, g_116_2 hG, g_116_3 hG, g_116_4 hG, g_116_5 hG]
    · unfold fX11_put
      simp (disch := omega) only [h11, if_true, if_false, not_true_eq_false, not_false_eq_true, zcall_ok, zjn_ok, zbl_0, zbl_1, zu_eq, zu_a, zu_j, if_pos, if_neg, ge_iff_le, gt_iff_lt, ne_eq, Int.cast_ofNat_Int, Int.add_zero, Int.zero_add, Int.reduceAdd, Int.reduceSub, Int.reduceMul, Int.reduceNeg, gf_129, pf_129, vc_129, g_129_0 hG, g_129_1 hG, g_129_2 hG, g_129_3 hG, g_129_7 hG, g_129_10 hG, g_129_11 hG, g_129_12 hG, g_129_13 hG, g_129_19 hG, g_129_21 hG, g_129_22 hG, g_129_23 hG, g_129_24 hG, g_129_25 hG, g_129_26 hG, g_129_28 hG, g_129_29 hG, g_129_33 hG, g_129_34 hG, g_129_35 hG, g_129_36 hG]
