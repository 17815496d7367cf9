/-! ===== shelves ===== -/
def zFd (N s b n e g : Int) (L R : Int → Int) : Prop := (s = -1 ∧ -1 ≤ b ∧ b < N ∧ e = b) ∨ (0 ≤ s ∧ s ≤ 4 ∧ b = -1 ∧ e = 50 + s ∧ 0 ≤ n ∧ n ≤ 60 ∧ g = n ∧ ∀ k : Int, 0 ≤ k → k < n → R k = L k ∧ (s = 0 → -128 ≤ L k ∧ L k ≤ 127))
def zGF (μ : zMem) : Prop := 0 ≤ μ 113 2 ∧ μ 113 2 ≤ 50 ∧ ∀ d : Int, 0 ≤ d → d < 6 → zFd (μ 113 2) (μ (zbF d) 2) (μ (zbF d) 1) (μ (zbF d) 3) (μ 148 d) (μ 149 d) (μ (zbF d + 1)) (fun k => μ 150 (60 * d + k))
theorem zFd_to {N N' s b n e g : Int} {L R L' R' : Int → Int} (h : zFd N s b n e g L R) (hN : N ≤ N') (hL : ∀ k : Int, 0 ≤ k → k < 60 → L' k = L k) (hR : ∀ k : Int, 0 ≤ k → k < 60 → R' k = R k) : zFd N' s b n e g L' R' := by
  unfold zFd at h ⊢
  rcases h with ⟨a, b, c, d⟩ | ⟨a, b, c, d, e, f, g, h⟩
  · exact Or.inl ⟨a, b, by omega, d⟩
  · refine Or.inr ⟨a, b, c, d, e, f, g, fun k k0 k1 => ?_⟩
    rw [hL k k0 (by omega), hR k k0 (by omega)]
    exact h k k0 k1
theorem tgF1 {d : Int} (h0 : 0 ≤ d) (h1 : d < 6) {j : Nat} : ztag (zbF d) j = 800 + j := by
  rcases znat6 h0 h1 with rfl | rfl | rfl | rfl | rfl | rfl <;> rfl
theorem tgF2 {d : Int} (h0 : 0 ≤ d) (h1 : d < 6) {j : Int} : ztag (zbF d + 1) j = 800 := by
  rcases znat6 h0 h1 with rfl | rfl | rfl | rfl | rfl | rfl <;> rfl
theorem zGF_keep {μ μ' : zMem} (h : zGF μ) (k : ∀ a j : Int, ztag a j ∈ [800, 801, 802, 803, 1133, 1134, 1135] → μ' a j = μ a j) (hN : μ 113 2 ≤ μ' 113 2) (hN2 : μ' 113 2 ≤ 50) : zGF μ' := by
  obtain ⟨h0, h1, h2⟩ := h
  refine ⟨by omega, hN2, fun d d0 d1 => ?_⟩
  rw [show μ' (zbF d) 2 = μ (zbF d) 2 from k _ _ (by rw [show (2 : Int) = (2 : Nat) from rfl, tgF1 d0 d1]; decide), show μ' (zbF d) 1 = μ (zbF d) 1 from k _ _ (by rw [show (1 : Int) = (1 : Nat) from rfl, tgF1 d0 d1]; decide), show μ' (zbF d) 3 = μ (zbF d) 3 from k _ _ (by rw [show (3 : Int) = (3 : Nat) from rfl, tgF1 d0 d1]; decide), k 148 d (by rw [tg_148]; decide), k 149 d (by rw [tg_149]; decide)]
  exact zFd_to (h2 d d0 d1) hN (fun i _ _ => k _ _ (by rw [tgF2 d0 d1]; decide)) (fun i _ _ => k _ _ (by rw [tg_150]; decide))
theorem zGF_upd {μ ν : zMem} (hF : zGF μ) {d : Int} (hN : ν 113 2 = μ 113 2) (ho : ∀ e : Int, 0 ≤ e → e < 6 → e ≠ d → ν (zbF e) 2 = μ (zbF e) 2 ∧ ν (zbF e) 1 = μ (zbF e) 1 ∧ ν (zbF e) 3 = μ (zbF e) 3 ∧ ν 148 e = μ 148 e ∧ ν 149 e = μ 149 e ∧ ∀ k : Int, 0 ≤ k → k < 60 → ν (zbF e + 1) k = μ (zbF e + 1) k ∧ ν 150 (60 * e + k) = μ 150 (60 * e + k))
    (hd : zFd (μ 113 2) (ν (zbF d) 2) (ν (zbF d) 1) (ν (zbF d) 3) (ν 148 d) (ν 149 d) (ν (zbF d + 1)) (fun k => ν 150 (60 * d + k))) : zGF ν := by
  obtain ⟨h0, h1, h2⟩ := hF
  refine ⟨by omega, by omega, fun e e0 e1 => ?_⟩
  rw [hN]
  by_cases he : e = d
  · rw [he]; exact hd
  · obtain ⟨a, b, c, f, g, h⟩ := ho e e0 e1 he
    rw [a, b, c, f, g]
    exact zFd_to (h2 e e0 e1) (Int.le_refl _) (fun k k0 k1 => (h k k0 k1).1) (fun k k0 k1 => (h k k0 k1).2)
theorem s10_isShelf {μ : zMem} (d : Int) : fX10_isShelf d μ = some (zb (0 ≤ d ∧ d < 6), μ) := by
  unfold fX10_isShelf
  by_cases h0 : d < 0
  · simp (disch := omega) only [zb_f, if_true, if_false, not_true_eq_false, not_false_eq_true, zcall_ok, zjn_ok, zbl_0, zbl_1, zu_eq, zu_a, zu_j, if_pos, if_neg, ge_iff_le, gt_iff_lt, ne_eq, Int.cast_ofNat_Int, Int.add_zero, Int.zero_add, Int.reduceAdd, Int.reduceSub, Int.reduceMul, Int.reduceNeg, gf_6, pf_6, vc_6]
  · by_cases h1 : d ≥ 6
    · simp (disch := omega) only [zb_f, if_true, if_false, not_true_eq_false, not_false_eq_true, zcall_ok, zjn_ok, zbl_0, zbl_1, zu_eq, zu_a, zu_j, if_pos, if_neg, ge_iff_le, gt_iff_lt, ne_eq, Int.cast_ofNat_Int, Int.add_zero, Int.zero_add, Int.reduceAdd, Int.reduceSub, Int.reduceMul, Int.reduceNeg, gf_6, pf_6, vc_6]
    · simp (disch := omega) only [zb_t, if_true, if_false, not_true_eq_false, not_false_eq_true, zcall_ok, zjn_ok, zbl_0, zbl_1, zu_eq, zu_a, zu_j, if_pos, if_neg, ge_iff_le, gt_iff_lt, ne_eq, Int.cast_ofNat_Int, Int.add_zero, Int.zero_add, Int.reduceAdd, Int.reduceSub, Int.reduceMul, Int.reduceNeg, gf_6, pf_6, vc_6]
theorem s11_isShelf {μ : zMem} (d : Int) : fX11_isShelf d μ = some (zb (0 ≤ d ∧ d < 6), μ) := by
  unfold fX11_isShelf
  simp only [s11_within, zcall_ok, zbl_ok zb01]
  congr 2
  by_cases h : 0 ≤ d ∧ d < 6
  · rw [zb_t h, zb_t (by omega)]
  · rw [zb_f h, zb_f (by omega)]
theorem s0_has {μ : zMem} (x : Int) : fX0_has 113 x μ = some (zb (0 ≤ x ∧ x < μ 113 2), μ) := by
  unfold fX0_has
  by_cases h0 : x < 0
  · simp (disch := omega) only [zb_f, if_true, if_false, not_true_eq_false, not_false_eq_true, zcall_ok, zjn_ok, zbl_0, zbl_1, zu_eq, zu_a, zu_j, if_pos, if_neg, ge_iff_le, gt_iff_lt, ne_eq, Int.cast_ofNat_Int, Int.add_zero, Int.zero_add, Int.reduceAdd, Int.reduceSub, Int.reduceMul, Int.reduceNeg, gf_113, pf_113, vc_113]
  · by_cases h1 : x ≥ μ 113 2
    · simp (disch := omega) only [zb_f, if_true, if_false, not_true_eq_false, not_false_eq_true, zcall_ok, zjn_ok, zbl_0, zbl_1, zu_eq, zu_a, zu_j, if_pos, if_neg, ge_iff_le, gt_iff_lt, ne_eq, Int.cast_ofNat_Int, Int.add_zero, Int.zero_add, Int.reduceAdd, Int.reduceSub, Int.reduceMul, Int.reduceNeg, gf_113, pf_113, vc_113]
    · simp (disch := omega) only [zb_t, if_true, if_false, not_true_eq_false, not_false_eq_true, zcall_ok, zjn_ok, zbl_0, zbl_1, zu_eq, zu_a, zu_j, if_pos, if_neg, ge_iff_le, gt_iff_lt, ne_eq, Int.cast_ofNat_Int, Int.add_zero, Int.zero_add, Int.reduceAdd, Int.reduceSub, Int.reduceMul, Int.reduceNeg, gf_113, pf_113, vc_113]
theorem s11_isBody {μ : zMem} (h : μ 129 27 = μ 113 2) (h0 : 0 ≤ μ 113 2) (h1 : μ 113 2 ≤ 50) (x : Int) : fX11_isBody 129 x μ = some (zb (0 ≤ x ∧ x < μ 113 2), μ) := by
  unfold fX11_isBody
  simp (disch := omega) only [gf_129, Int.cast_ofNat_Int, s11_within, zcall_ok, h, zw32_id, zbl_ok zb01]
  congr 2
  by_cases h : 0 ≤ x ∧ x < μ 113 2
  · rw [zb_t h, zb_t (by omega)]
  · rw [zb_f h, zb_f (by omega)]
theorem zbF_eq (d : Int) : zbF d = 117 + 2 * d := rfl
theorem op_keep {μ : zMem} (hG : zG0 μ) (hF : zGF μ) (hB : μ 129 27 = μ 113 2) (d x : Int) : ∃ r μ1 μ2, fX10_keep 5 d x μ = some (r, μ1) ∧ fX11_keep 129 d x μ1 = some (r, μ2) ∧ zGF μ2 := by
  have hFc := hF
  obtain ⟨h0, h1, h2⟩ := hFc
  have hz := zbF_eq d
  unfold fX10_keep fX11_keep fX8_holdBody
  by_cases hd : 0 ≤ d ∧ d < 6
  · by_cases hx : x = -1 ∨ (0 ≤ x ∧ x < μ 113 2)
    · have hbd : ∀ u : zMem, u 129 27 = μ 113 2 → u 113 2 = μ 113 2 → fX11_isBody 129 x u = some (zb (0 ≤ x ∧ x < μ 113 2), u) := fun u q1 q2 => by rw [s11_isBody (by omega) (by omega) (by omega), q2]
      refine ⟨1, zupd (zupd (zupd μ (zbF d) 1 x) (zbF d) 2 (-1)) (zbF d) 3 0, zupd (zupd (zupd (zupd (zupd μ (zbF d) 1 x) (zbF d) 2 (-1)) (zbF d) 3 0) 148 d x) 149 d 0, ?_, ?_, ?_⟩
      · by_cases hx1 : x = -1
        · simp (disch := omega) only [s10_isShelf, zb_t, g_116 hG, vcF, pfF, if_true, if_false, not_true_eq_false, not_false_eq_true, zcall_ok, zjn_ok, zbl_0, zbl_1, zu_eq, zu_a, zu_j, if_pos, if_neg, ge_iff_le, gt_iff_lt, ne_eq, Int.cast_ofNat_Int, Int.add_zero, Int.zero_add, Int.reduceAdd, Int.reduceSub, Int.reduceMul, Int.reduceNeg, gf_5, pf_5, vc_5, al_116, ln_116, g_5_0 hG, g_5_1 hG, g_5_2 hG, g_5_3 hG, g_5_4 hG, g_5_5 hG, g_5_6 hG, g_116_0 hG, g_116_1 hG, g_116_2 hG, g_116_3 hG, g_116_4 hG, g_116_5 hG]
        · simp (disch := omega) only [s10_isShelf, zb_t, s0_has, g_116 hG, vcF, pfF, if_true, if_false, not_true_eq_false, not_false_eq_true, zcall_ok, zjn_ok, zbl_0, zbl_1, zu_eq, zu_a, zu_j, if_pos, if_neg, ge_iff_le, gt_iff_lt, ne_eq, Int.cast_ofNat_Int, Int.add_zero, Int.zero_add, Int.reduceAdd, Int.reduceSub, Int.reduceMul, Int.reduceNeg, gf_5, pf_5, vc_5, gf_113, pf_113, vc_113, al_116, ln_116, g_5_0 hG, g_5_1 hG, g_5_2 hG, g_5_3 hG, g_5_4 hG, g_5_5 hG, g_5_6 hG, g_113_0 hG, g_113_1 hG, g_116_0 hG, g_116_1 hG, g_116_2 hG, g_116_3 hG, g_116_4 hG, g_116_5 hG]
      · have hb2 := hbd (zupd (zupd (zupd μ (zbF d) 1 x) (zbF d) 2 (-1)) (zbF d) 3 0) (by simp (disch := omega) only [if_true, if_false, not_true_eq_false, not_false_eq_true, zcall_ok, zjn_ok, zbl_0, zbl_1, zu_eq, zu_a, zu_j, if_pos, if_neg, ge_iff_le, gt_iff_lt, ne_eq, Int.cast_ofNat_Int, Int.add_zero, Int.zero_add, Int.reduceAdd, Int.reduceSub, Int.reduceMul, Int.reduceNeg, gf_6, pf_6, vc_6]; exact hB) (by simp (disch := omega) only [if_true, if_false, not_true_eq_false, not_false_eq_true, zcall_ok, zjn_ok, zbl_0, zbl_1, zu_eq, zu_a, zu_j, if_pos, if_neg, ge_iff_le, gt_iff_lt, ne_eq, Int.cast_ofNat_Int, Int.add_zero, Int.zero_add, Int.reduceAdd, Int.reduceSub, Int.reduceMul, Int.reduceNeg, gf_6, pf_6, vc_6])
        by_cases hx1 : x = -1
        · simp (disch := omega) only [s11_isShelf, zb_t, if_true, if_false, not_true_eq_false, not_false_eq_true, zcall_ok, zjn_ok, zbl_0, zbl_1, zu_eq, zu_a, zu_j, if_pos, if_neg, ge_iff_le, gt_iff_lt, ne_eq, Int.cast_ofNat_Int, Int.add_zero, Int.zero_add, Int.reduceAdd, Int.reduceSub, Int.reduceMul, Int.reduceNeg, gf_129, pf_129, vc_129, al_148, as_148, ln_148, al_149, as_149, ln_149, g_129_0 hG, g_129_1 hG, g_129_2 hG, g_129_3 hG, g_129_7 hG, g_129_10 hG, g_129_11 hG, g_129_12 hG, g_129_13 hG, g_129_19 hG, g_129_21 hG, g_129_22 hG, g_129_23 hG, g_129_24 hG, g_129_25 hG, g_129_26 hG, g_129_28 hG, g_129_29 hG, g_129_33 hG, g_129_34 hG, g_129_35 hG, g_129_36 hG]
        · simp (disch := omega) only [s11_isShelf, zb_t, hb2, if_true, if_false, not_true_eq_false, not_false_eq_true, zcall_ok, zjn_ok, zbl_0, zbl_1, zu_eq, zu_a, zu_j, if_pos, if_neg, ge_iff_le, gt_iff_lt, ne_eq, Int.cast_ofNat_Int, Int.add_zero, Int.zero_add, Int.reduceAdd, Int.reduceSub, Int.reduceMul, Int.reduceNeg, gf_129, pf_129, vc_129, al_148, as_148, ln_148, al_149, as_149, ln_149, g_129_0 hG, g_129_1 hG, g_129_2 hG, g_129_3 hG, g_129_7 hG, g_129_10 hG, g_129_11 hG, g_129_12 hG, g_129_13 hG, g_129_19 hG, g_129_21 hG, g_129_22 hG, g_129_23 hG, g_129_24 hG, g_129_25 hG, g_129_26 hG, g_129_28 hG, g_129_29 hG, g_129_33 hG, g_129_34 hG, g_129_35 hG, g_129_36 hG]
      · refine zGF_upd hF (d := d) (by simp (disch := omega) only [if_true, if_false, not_true_eq_false, not_false_eq_true, zcall_ok, zjn_ok, zbl_0, zbl_1, zu_eq, zu_a, zu_j, if_pos, if_neg, ge_iff_le, gt_iff_lt, ne_eq, Int.cast_ofNat_Int, Int.add_zero, Int.zero_add, Int.reduceAdd, Int.reduceSub, Int.reduceMul, Int.reduceNeg, gf_6, pf_6, vc_6]) (fun e e0 e1 he => ?_) (Or.inl ⟨by simp (disch := omega) only [if_true, if_false, not_true_eq_false, not_false_eq_true, zcall_ok, zjn_ok, zbl_0, zbl_1, zu_eq, zu_a, zu_j, if_pos, if_neg, ge_iff_le, gt_iff_lt, ne_eq, Int.cast_ofNat_Int, Int.add_zero, Int.zero_add, Int.reduceAdd, Int.reduceSub, Int.reduceMul, Int.reduceNeg, gf_6, pf_6, vc_6], by simp (disch := omega) only [if_true, if_false, not_true_eq_false, not_false_eq_true, zcall_ok, zjn_ok, zbl_0, zbl_1, zu_eq, zu_a, zu_j, if_pos, if_neg, ge_iff_le, gt_iff_lt, ne_eq, Int.cast_ofNat_Int, Int.add_zero, Int.zero_add, Int.reduceAdd, Int.reduceSub, Int.reduceMul, Int.reduceNeg, gf_6, pf_6, vc_6]; omega, by simp (disch := omega) only [if_true, if_false, not_true_eq_false, not_false_eq_true, zcall_ok, zjn_ok, zbl_0, zbl_1, zu_eq, zu_a, zu_j, if_pos, if_neg, ge_iff_le, gt_iff_lt, ne_eq, Int.cast_ofNat_Int, Int.add_zero, Int.zero_add, Int.reduceAdd, Int.reduceSub, Int.reduceMul, Int.reduceNeg, gf_6, pf_6, vc_6]; omega, by simp (disch := omega) only [if_true, if_false, not_true_eq_false, not_false_eq_true, zcall_ok, zjn_ok, zbl_0, zbl_1, zu_eq, zu_a, zu_j, if_pos, if_neg, ge_iff_le, gt_iff_lt, ne_eq, Int.cast_ofNat_Int, Int.add_zero, Int.zero_add, Int.reduceAdd, Int.reduceSub, Int.reduceMul, Int.reduceNeg, gf_6, pf_6, vc_6]⟩)
        have hz' := zbF_eq e
        refine ⟨by simp (disch := omega) only [if_true, if_false, not_true_eq_false, not_false_eq_true, zcall_ok, zjn_ok, zbl_0, zbl_1, zu_eq, zu_a, zu_j, if_pos, if_neg, ge_iff_le, gt_iff_lt, ne_eq, Int.cast_ofNat_Int, Int.add_zero, Int.zero_add, Int.reduceAdd, Int.reduceSub, Int.reduceMul, Int.reduceNeg, gf_6, pf_6, vc_6], by simp (disch := omega) only [if_true, if_false, not_true_eq_false, not_false_eq_true, zcall_ok, zjn_ok, zbl_0, zbl_1, zu_eq, zu_a, zu_j, if_pos, if_neg, ge_iff_le, gt_iff_lt, ne_eq, Int.cast_ofNat_Int, Int.add_zero, Int.zero_add, Int.reduceAdd, Int.reduceSub, Int.reduceMul, Int.reduceNeg, gf_6, pf_6, vc_6], by simp (disch := omega) only [if_true, if_false, not_true_eq_false, not_false_eq_true, zcall_ok, zjn_ok, zbl_0, zbl_1, zu_eq, zu_a, zu_j, if_pos, if_neg, ge_iff_le, gt_iff_lt, ne_eq, Int.cast_ofNat_Int, Int.add_zero, Int.zero_add, Int.reduceAdd, Int.reduceSub, Int.reduceMul, Int.reduceNeg, gf_6, pf_6, vc_6], by simp (disch := omega) only [if_true, if_false, not_true_eq_false, not_false_eq_true, zcall_ok, zjn_ok, zbl_0, zbl_1, zu_eq, zu_a, zu_j, if_pos, if_neg, ge_iff_le, gt_iff_lt, ne_eq, Int.cast_ofNat_Int, Int.add_zero, Int.zero_add, Int.reduceAdd, Int.reduceSub, Int.reduceMul, Int.reduceNeg, gf_6, pf_6, vc_6], by simp (disch := omega) only [if_true, if_false, not_true_eq_false, not_false_eq_true, zcall_ok, zjn_ok, zbl_0, zbl_1, zu_eq, zu_a, zu_j, if_pos, if_neg, ge_iff_le, gt_iff_lt, ne_eq, Int.cast_ofNat_Int, Int.add_zero, Int.zero_add, Int.reduceAdd, Int.reduceSub, Int.reduceMul, Int.reduceNeg, gf_6, pf_6, vc_6], fun k k0 k1 => ⟨by simp (disch := omega) only [if_true, if_false, not_true_eq_false, not_false_eq_true, zcall_ok, zjn_ok, zbl_0, zbl_1, zu_eq, zu_a, zu_j, if_pos, if_neg, ge_iff_le, gt_iff_lt, ne_eq, Int.cast_ofNat_Int, Int.add_zero, Int.zero_add, Int.reduceAdd, Int.reduceSub, Int.reduceMul, Int.reduceNeg, gf_6, pf_6, vc_6], by simp (disch := omega) only [if_true, if_false, not_true_eq_false, not_false_eq_true, zcall_ok, zjn_ok, zbl_0, zbl_1, zu_eq, zu_a, zu_j, if_pos, if_neg, ge_iff_le, gt_iff_lt, ne_eq, Int.cast_ofNat_Int, Int.add_zero, Int.zero_add, Int.reduceAdd, Int.reduceSub, Int.reduceMul, Int.reduceNeg, gf_6, pf_6, vc_6]⟩⟩
    · refine ⟨-1, μ, μ, ?_, ?_, hF⟩
      · simp (disch := omega) only [s10_isShelf, zb_t, s0_has, zb_f, if_true, if_false, not_true_eq_false, not_false_eq_true, zcall_ok, zjn_ok, zbl_0, zbl_1, zu_eq, zu_a, zu_j, if_pos, if_neg, ge_iff_le, gt_iff_lt, ne_eq, Int.cast_ofNat_Int, Int.add_zero, Int.zero_add, Int.reduceAdd, Int.reduceSub, Int.reduceMul, Int.reduceNeg, gf_5, pf_5, vc_5, gf_113, pf_113, vc_113, g_5_0 hG, g_5_1 hG, g_5_2 hG, g_5_3 hG, g_5_4 hG, g_5_5 hG, g_5_6 hG, g_113_0 hG, g_113_1 hG]
      · simp (disch := omega) only [s11_isShelf, zb_t, s11_isBody hB h0 h1, zb_f, if_true, if_false, not_true_eq_false, not_false_eq_true, zcall_ok, zjn_ok, zbl_0, zbl_1, zu_eq, zu_a, zu_j, if_pos, if_neg, ge_iff_le, gt_iff_lt, ne_eq, Int.cast_ofNat_Int, Int.add_zero, Int.zero_add, Int.reduceAdd, Int.reduceSub, Int.reduceMul, Int.reduceNeg, gf_129, pf_129, vc_129, g_129_0 hG, g_129_1 hG, g_129_2 hG, g_129_3 hG, g_129_7 hG, g_129_10 hG, g_129_11 hG, g_129_12 hG, g_129_13 hG, g_129_19 hG, g_129_21 hG, g_129_22 hG, g_129_23 hG, g_129_24 hG, g_129_25 hG, g_129_26 hG, g_129_28 hG, g_129_29 hG, g_129_33 hG, g_129_34 hG, g_129_35 hG, g_129_36 hG]
  · refine ⟨-1, μ, μ, ?_, ?_, hF⟩
    · simp (disch := omega) only [s10_isShelf, zb_f, if_true, if_false, not_true_eq_false, not_false_eq_true, zcall_ok, zjn_ok, zbl_0, zbl_1, zu_eq, zu_a, zu_j, if_pos, if_neg, ge_iff_le, gt_iff_lt, ne_eq, Int.cast_ofNat_Int, Int.add_zero, Int.zero_add, Int.reduceAdd, Int.reduceSub, Int.reduceMul, Int.reduceNeg, gf_5, pf_5, vc_5, g_5_0 hG, g_5_1 hG, g_5_2 hG, g_5_3 hG, g_5_4 hG, g_5_5 hG, g_5_6 hG]
    · simp (disch := omega) only [s11_isShelf, zb_f, if_true, if_false, not_true_eq_false, not_false_eq_true, zcall_ok, zjn_ok, zbl_0, zbl_1, zu_eq, zu_a, zu_j, if_pos, if_neg, ge_iff_le, gt_iff_lt, ne_eq, Int.cast_ofNat_Int, Int.add_zero, Int.zero_add, Int.reduceAdd, Int.reduceSub, Int.reduceMul, Int.reduceNeg, gf_129, pf_129, vc_129, g_129_0 hG, g_129_1 hG, g_129_2 hG, g_129_3 hG, g_129_7 hG, g_129_10 hG, g_129_11 hG, g_129_12 hG, g_129_13 hG, g_129_19 hG, g_129_21 hG, g_129_22 hG, g_129_23 hG, g_129_24 hG, g_129_25 hG, g_129_26 hG, g_129_28 hG, g_129_29 hG, g_129_33 hG, g_129_34 hG, g_129_35 hG, g_129_36 hG]
/-- zeros from lo below hi -/
def zzer (μ : zMem) (a lo hi : Int) : zMem := fun a' j => if a' = a ∧ lo ≤ j ∧ j < hi then 0 else μ a' j
theorem zzer_0 {μ : zMem} {a lo : Int} : zzer μ a lo lo = μ := by
  funext a' j
  unfold zzer
  rw [if_neg (by omega)]
theorem zzer_s {μ : zMem} {a lo v : Int} (h : lo ≤ v) : zupd (zzer μ a lo v) a v 0 = zzer μ a lo (v + 1) := by
  funext a' j
  unfold zupd zzer
  by_cases h1 : a' = a ∧ j = v
  · rw [if_pos h1, if_pos (by omega)]
  · rw [if_neg h1]
    by_cases h2 : a' = a ∧ lo ≤ j ∧ j < v
    · rw [if_pos h2, if_pos (by omega)]
    · rw [if_neg h2, if_neg (by omega)]
theorem zzer_a {μ : zMem} {a lo hi a' j : Int} (h : ¬ a' = a) : zzer μ a lo hi a' j = μ a' j := by unfold zzer; rw [if_neg (fun q => h q.1)]
theorem zzer_o {μ : zMem} {a lo hi a' j : Int} (h : ¬ (lo ≤ j ∧ j < hi)) : zzer μ a lo hi a' j = μ a' j := by unfold zzer; rw [if_neg (fun q => h q.2)]
theorem zzer_i {μ : zMem} {a lo hi j : Int} (h : lo ≤ j) (h1 : j < hi) : zzer μ a lo hi a j = 0 := by unfold zzer; rw [if_pos ⟨rfl, h, h1⟩]
theorem s8_holdRow {μ : zMem} (hG : zG0 μ) {d s n : Int} (hd : 0 ≤ d ∧ d < 6) (hn : 0 ≤ n ∧ n ≤ 60) : fX8_holdRow (zbF d) s n μ = some (0, zzer (zupd (zupd (zupd μ (zbF d) 1 (-1)) (zbF d) 2 s) (zbF d) 3 n) (zbF d + 1) 0 n) := by
  have hz := zbF_eq d
  unfold fX8_holdRow
  have e : zmx 0 (zmi 60 n) = n := by unfold zmx zmi; split <;> split <;> omega
  rw [e]
  simp (disch := omega) only [pfF, if_true, if_false, not_true_eq_false, not_false_eq_true, zcall_ok, zjn_ok, zbl_0, zbl_1, zu_eq, zu_a, zu_j, if_pos, if_neg, ge_iff_le, gt_iff_lt, ne_eq, Int.cast_ofNat_Int, Int.add_zero, Int.zero_add, Int.reduceAdd, Int.reduceSub, Int.reduceMul, Int.reduceNeg, gf_6, pf_6, vc_6]
  refine zlp_meas (fun k (f : Int → zMem → zRs) => ∀ (x : Int) (u : zMem), 0 ≤ x → x ≤ n → n - x < k → u = zzer (zupd (zupd (zupd μ (zbF d) 1 (-1)) (zbF d) 2 s) (zbF d) 3 n) (zbF d + 1) 0 x → f x u = some (0, zzer (zupd (zupd (zupd μ (zbF d) 1 (-1)) (zbF d) 2 s) (zbF d) 3 n) (zbF d + 1) 0 n)) ?_ ?_ 1000000 0 _ (by omega) (by omega) (by omega) ?_
  · intro x u h1 h2 h3
    omega
  · intro k f ih x u h1 h2 h3 hu
    by_cases hx : x = n
    · subst hu
      rw [hx]
      simp (disch := omega) only [gfF, zzer_a, if_true, if_false, not_true_eq_false, not_false_eq_true, zcall_ok, zjn_ok, zbl_0, zbl_1, zu_eq, zu_a, zu_j, if_pos, if_neg, ge_iff_le, gt_iff_lt, ne_eq, Int.cast_ofNat_Int, Int.add_zero, Int.zero_add, Int.reduceAdd, Int.reduceSub, Int.reduceMul, Int.reduceNeg, gf_6, pf_6, vc_6]
    · have := ih (x + 1) _ (by omega) (by omega) (by omega) rfl
      rw [← zzer_s h1] at this
      rw [hu]
      simp (disch := omega) only [gfF, zzer_a, g_F0 hG, asF, zw32_id, if_true, if_false, not_true_eq_false, not_false_eq_true, zcall_ok, zjn_ok, zbl_0, zbl_1, zu_eq, zu_a, zu_j, if_pos, if_neg, ge_iff_le, gt_iff_lt, ne_eq, Int.cast_ofNat_Int, Int.add_zero, Int.zero_add, Int.reduceAdd, Int.reduceSub, Int.reduceMul, Int.reduceNeg, gf_6, pf_6, vc_6]
      exact this
  · exact zzer_0.symm
theorem op_row {μ : zMem} (hG : zG0 μ) (hF : zGF μ) (d s n : Int) : ∃ r μ1 μ2, fX10_row 5 d s n μ = some (r, μ1) ∧ fX11_row 129 d s n μ1 = some (r, μ2) ∧ zGF μ2 := by
  have hFc := hF
  obtain ⟨h0, h1, h2⟩ := hFc
  have hz := zbF_eq d
  unfold fX10_row fX11_row fX8_isRowSort
  by_cases hd : 0 ≤ d ∧ d < 6
  · by_cases hs : 0 ≤ s ∧ s ≤ 4
    · by_cases hn : n ≤ 60
      · by_cases hn0 : 0 ≤ n
        · refine ⟨1, zzer (zupd (zupd (zupd μ (zbF d) 1 (-1)) (zbF d) 2 s) (zbF d) 3 n) (zbF d + 1) 0 n, zzer (zupd (zupd (zzer (zupd (zupd (zupd μ (zbF d) 1 (-1)) (zbF d) 2 s) (zbF d) 3 n) (zbF d + 1) 0 n) 148 d (50 + s)) 149 d n) 150 (60 * d) (60 * d + 60), ?_, ?_, ?_⟩
          · simp (disch := omega) only [s10_isShelf, zb_t, g_116 hG, s8_holdRow hG, vcF, if_true, if_false, not_true_eq_false, not_false_eq_true, zcall_ok, zjn_ok, zbl_0, zbl_1, zu_eq, zu_a, zu_j, if_pos, if_neg, ge_iff_le, gt_iff_lt, ne_eq, Int.cast_ofNat_Int, Int.add_zero, Int.zero_add, Int.reduceAdd, Int.reduceSub, Int.reduceMul, Int.reduceNeg, gf_5, pf_5, vc_5, al_116, ln_116, g_5_0 hG, g_5_1 hG, g_5_2 hG, g_5_3 hG, g_5_4 hG, g_5_5 hG, g_5_6 hG, g_116_0 hG, g_116_1 hG, g_116_2 hG, g_116_3 hG, g_116_4 hG, g_116_5 hG]
          · have e35 : (zupd (zupd (zzer (zupd (zupd (zupd μ (zbF d) 1 (-1)) (zbF d) 2 s) (zbF d) 3 n) (zbF d + 1) 0 n) 148 d (50 + s)) 149 d n) 129 35 = 150 := by simp (disch := omega) only [zzer_a, if_true, if_false, not_true_eq_false, not_false_eq_true, zcall_ok, zjn_ok, zbl_0, zbl_1, zu_eq, zu_a, zu_j, if_pos, if_neg, ge_iff_le, gt_iff_lt, ne_eq, Int.cast_ofNat_Int, Int.add_zero, Int.zero_add, Int.reduceAdd, Int.reduceSub, Int.reduceMul, Int.reduceNeg, gf_129, pf_129, vc_129, g_129_0 hG, g_129_1 hG, g_129_2 hG, g_129_3 hG, g_129_7 hG, g_129_10 hG, g_129_11 hG, g_129_12 hG, g_129_13 hG, g_129_19 hG, g_129_21 hG, g_129_22 hG, g_129_23 hG, g_129_24 hG, g_129_25 hG, g_129_26 hG, g_129_28 hG, g_129_29 hG, g_129_33 hG, g_129_34 hG, g_129_35 hG, g_129_36 hG]
            simp (disch := omega) only [s11_isShelf, zb_t, s11_within, zw32_id, zzer_a, if_true, if_false, not_true_eq_false, not_false_eq_true, zcall_ok, zjn_ok, zbl_0, zbl_1, zu_eq, zu_a, zu_j, if_pos, if_neg, ge_iff_le, gt_iff_lt, ne_eq, Int.cast_ofNat_Int, Int.add_zero, Int.zero_add, Int.reduceAdd, Int.reduceSub, Int.reduceMul, Int.reduceNeg, gf_129, pf_129, vc_129, al_148, as_148, ln_148, al_149, as_149, ln_149, g_129_0 hG, g_129_1 hG, g_129_2 hG, g_129_3 hG, g_129_7 hG, g_129_10 hG, g_129_11 hG, g_129_12 hG, g_129_13 hG, g_129_19 hG, g_129_21 hG, g_129_22 hG, g_129_23 hG, g_129_24 hG, g_129_25 hG, g_129_26 hG, g_129_28 hG, g_129_29 hG, g_129_33 hG, g_129_34 hG, g_129_35 hG, g_129_36 hG]
            generalize zupd (zupd (zzer (zupd (zupd (zupd μ (zbF d) 1 (-1)) (zbF d) 2 s) (zbF d) 3 n) (zbF d + 1) 0 n) 148 d (50 + s)) 149 d n = ν at e35 ⊢
            refine zlp_meas (fun k (f : Int → zMem → zRs) => ∀ (x : Int) (u : zMem), 60 * d ≤ x → x ≤ 60 * d + 60 → 60 * d + 60 - x < k → u = zzer ν 150 (60 * d) x → f x u = some (1, zzer ν 150 (60 * d) (60 * d + 60))) ?_ ?_ 1000000 (60 * d) _ (by omega) (by omega) (by omega) ?_
            · intro x u h1 h2 h3
              omega
            · intro k f ih x u h1 h2 h3 hu
              by_cases hx : x = 60 * d + 60
              · subst hu
                rw [hx]
                simp (disch := omega) only [if_true, if_false, not_true_eq_false, not_false_eq_true, zcall_ok, zjn_ok, zbl_0, zbl_1, zu_eq, zu_a, zu_j, if_pos, if_neg, ge_iff_le, gt_iff_lt, ne_eq, Int.cast_ofNat_Int, Int.add_zero, Int.zero_add, Int.reduceAdd, Int.reduceSub, Int.reduceMul, Int.reduceNeg, gf_6, pf_6, vc_6]
              · have := ih (x + 1) _ (by omega) (by omega) (by omega) rfl
                rw [← zzer_s h1] at this
                rw [hu]
                simp (disch := omega) only [zw32_id, zzer_a, e35, if_true, if_false, not_true_eq_false, not_false_eq_true, zcall_ok, zjn_ok, zbl_0, zbl_1, zu_eq, zu_a, zu_j, if_pos, if_neg, ge_iff_le, gt_iff_lt, ne_eq, Int.cast_ofNat_Int, Int.add_zero, Int.zero_add, Int.reduceAdd, Int.reduceSub, Int.reduceMul, Int.reduceNeg, gf_129, pf_129, vc_129, al_150, as_150, ln_150]
                exact this
            · exact zzer_0.symm
          · refine zGF_upd hF (d := d) (by simp (disch := omega) only [zzer_a, if_true, if_false, not_true_eq_false, not_false_eq_true, zcall_ok, zjn_ok, zbl_0, zbl_1, zu_eq, zu_a, zu_j, if_pos, if_neg, ge_iff_le, gt_iff_lt, ne_eq, Int.cast_ofNat_Int, Int.add_zero, Int.zero_add, Int.reduceAdd, Int.reduceSub, Int.reduceMul, Int.reduceNeg, gf_6, pf_6, vc_6]) (fun e e0 e1 he => ?_) (Or.inr ⟨?_, ?_, ?_, ?_, ?_, ?_, ?_, fun k k0 k1 => ?_⟩)
            · have hz' := zbF_eq e
              refine ⟨by simp (disch := omega) only [zzer_a, if_true, if_false, not_true_eq_false, not_false_eq_true, zcall_ok, zjn_ok, zbl_0, zbl_1, zu_eq, zu_a, zu_j, if_pos, if_neg, ge_iff_le, gt_iff_lt, ne_eq, Int.cast_ofNat_Int, Int.add_zero, Int.zero_add, Int.reduceAdd, Int.reduceSub, Int.reduceMul, Int.reduceNeg, gf_6, pf_6, vc_6], by simp (disch := omega) only [zzer_a, if_true, if_false, not_true_eq_false, not_false_eq_true, zcall_ok, zjn_ok, zbl_0, zbl_1, zu_eq, zu_a, zu_j, if_pos, if_neg, ge_iff_le, gt_iff_lt, ne_eq, Int.cast_ofNat_Int, Int.add_zero, Int.zero_add, Int.reduceAdd, Int.reduceSub, Int.reduceMul, Int.reduceNeg, gf_6, pf_6, vc_6], by simp (disch := omega) only [zzer_a, if_true, if_false, not_true_eq_false, not_false_eq_true, zcall_ok, zjn_ok, zbl_0, zbl_1, zu_eq, zu_a, zu_j, if_pos, if_neg, ge_iff_le, gt_iff_lt, ne_eq, Int.cast_ofNat_Int, Int.add_zero, Int.zero_add, Int.reduceAdd, Int.reduceSub, Int.reduceMul, Int.reduceNeg, gf_6, pf_6, vc_6], by simp (disch := omega) only [zzer_a, if_true, if_false, not_true_eq_false, not_false_eq_true, zcall_ok, zjn_ok, zbl_0, zbl_1, zu_eq, zu_a, zu_j, if_pos, if_neg, ge_iff_le, gt_iff_lt, ne_eq, Int.cast_ofNat_Int, Int.add_zero, Int.zero_add, Int.reduceAdd, Int.reduceSub, Int.reduceMul, Int.reduceNeg, gf_6, pf_6, vc_6], by simp (disch := omega) only [zzer_a, if_true, if_false, not_true_eq_false, not_false_eq_true, zcall_ok, zjn_ok, zbl_0, zbl_1, zu_eq, zu_a, zu_j, if_pos, if_neg, ge_iff_le, gt_iff_lt, ne_eq, Int.cast_ofNat_Int, Int.add_zero, Int.zero_add, Int.reduceAdd, Int.reduceSub, Int.reduceMul, Int.reduceNeg, gf_6, pf_6, vc_6], fun k k0 k1 => ⟨by simp (disch := omega) only [zzer_a, if_true, if_false, not_true_eq_false, not_false_eq_true, zcall_ok, zjn_ok, zbl_0, zbl_1, zu_eq, zu_a, zu_j, if_pos, if_neg, ge_iff_le, gt_iff_lt, ne_eq, Int.cast_ofNat_Int, Int.add_zero, Int.zero_add, Int.reduceAdd, Int.reduceSub, Int.reduceMul, Int.reduceNeg, gf_6, pf_6, vc_6], by simp (disch := omega) only [zzer_a, zzer_o, if_true, if_false, not_true_eq_false, not_false_eq_true, zcall_ok, zjn_ok, zbl_0, zbl_1, zu_eq, zu_a, zu_j, if_pos, if_neg, ge_iff_le, gt_iff_lt, ne_eq, Int.cast_ofNat_Int, Int.add_zero, Int.zero_add, Int.reduceAdd, Int.reduceSub, Int.reduceMul, Int.reduceNeg, gf_6, pf_6, vc_6]⟩⟩
            · simp (disch := omega) only [zzer_a, if_true, if_false, not_true_eq_false, not_false_eq_true, zcall_ok, zjn_ok, zbl_0, zbl_1, zu_eq, zu_a, zu_j, if_pos, if_neg, ge_iff_le, gt_iff_lt, ne_eq, Int.cast_ofNat_Int, Int.add_zero, Int.zero_add, Int.reduceAdd, Int.reduceSub, Int.reduceMul, Int.reduceNeg, gf_6, pf_6, vc_6]; exact hs.1
            · simp (disch := omega) only [zzer_a, if_true, if_false, not_true_eq_false, not_false_eq_true, zcall_ok, zjn_ok, zbl_0, zbl_1, zu_eq, zu_a, zu_j, if_pos, if_neg, ge_iff_le, gt_iff_lt, ne_eq, Int.cast_ofNat_Int, Int.add_zero, Int.zero_add, Int.reduceAdd, Int.reduceSub, Int.reduceMul, Int.reduceNeg, gf_6, pf_6, vc_6]; exact hs.2
            · simp (disch := omega) only [zzer_a, if_true, if_false, not_true_eq_false, not_false_eq_true, zcall_ok, zjn_ok, zbl_0, zbl_1, zu_eq, zu_a, zu_j, if_pos, if_neg, ge_iff_le, gt_iff_lt, ne_eq, Int.cast_ofNat_Int, Int.add_zero, Int.zero_add, Int.reduceAdd, Int.reduceSub, Int.reduceMul, Int.reduceNeg, gf_6, pf_6, vc_6]
            · simp (disch := omega) only [zzer_a, if_true, if_false, not_true_eq_false, not_false_eq_true, zcall_ok, zjn_ok, zbl_0, zbl_1, zu_eq, zu_a, zu_j, if_pos, if_neg, ge_iff_le, gt_iff_lt, ne_eq, Int.cast_ofNat_Int, Int.add_zero, Int.zero_add, Int.reduceAdd, Int.reduceSub, Int.reduceMul, Int.reduceNeg, gf_6, pf_6, vc_6]
            · simp (disch := omega) only [zzer_a, if_true, if_false, not_true_eq_false, not_false_eq_true, zcall_ok, zjn_ok, zbl_0, zbl_1, zu_eq, zu_a, zu_j, if_pos, if_neg, ge_iff_le, gt_iff_lt, ne_eq, Int.cast_ofNat_Int, Int.add_zero, Int.zero_add, Int.reduceAdd, Int.reduceSub, Int.reduceMul, Int.reduceNeg, gf_6, pf_6, vc_6]; exact hn0
            · simp (disch := omega) only [zzer_a, if_true, if_false, not_true_eq_false, not_false_eq_true, zcall_ok, zjn_ok, zbl_0, zbl_1, zu_eq, zu_a, zu_j, if_pos, if_neg, ge_iff_le, gt_iff_lt, ne_eq, Int.cast_ofNat_Int, Int.add_zero, Int.zero_add, Int.reduceAdd, Int.reduceSub, Int.reduceMul, Int.reduceNeg, gf_6, pf_6, vc_6]; exact hn
            · simp (disch := omega) only [zzer_a, if_true, if_false, not_true_eq_false, not_false_eq_true, zcall_ok, zjn_ok, zbl_0, zbl_1, zu_eq, zu_a, zu_j, if_pos, if_neg, ge_iff_le, gt_iff_lt, ne_eq, Int.cast_ofNat_Int, Int.add_zero, Int.zero_add, Int.reduceAdd, Int.reduceSub, Int.reduceMul, Int.reduceNeg, gf_6, pf_6, vc_6]
            · have k1 : k < n := by revert k1; simp (disch := omega) only [zzer_a, if_true, if_false, not_true_eq_false, not_false_eq_true, zcall_ok, zjn_ok, zbl_0, zbl_1, zu_eq, zu_a, zu_j, if_pos, if_neg, ge_iff_le, gt_iff_lt, ne_eq, Int.cast_ofNat_Int, Int.add_zero, Int.zero_add, Int.reduceAdd, Int.reduceSub, Int.reduceMul, Int.reduceNeg, gf_6, pf_6, vc_6]; exact id
              refine ⟨?_, fun _ => ?_⟩
              · simp (disch := omega) only [zzer_a, zzer_i, if_true, if_false, not_true_eq_false, not_false_eq_true, zcall_ok, zjn_ok, zbl_0, zbl_1, zu_eq, zu_a, zu_j, if_pos, if_neg, ge_iff_le, gt_iff_lt, ne_eq, Int.cast_ofNat_Int, Int.add_zero, Int.zero_add, Int.reduceAdd, Int.reduceSub, Int.reduceMul, Int.reduceNeg, gf_6, pf_6, vc_6]
              · simp (disch := omega) only [zzer_a, zzer_i, if_true, if_false, not_true_eq_false, not_false_eq_true, zcall_ok, zjn_ok, zbl_0, zbl_1, zu_eq, zu_a, zu_j, if_pos, if_neg, ge_iff_le, gt_iff_lt, ne_eq, Int.cast_ofNat_Int, Int.add_zero, Int.zero_add, Int.reduceAdd, Int.reduceSub, Int.reduceMul, Int.reduceNeg, gf_6, pf_6, vc_6]
                omega
        · refine ⟨-14, μ, μ, ?_, ?_, hF⟩
          · simp (disch := omega) only [s10_isShelf, zb_t, if_true, if_false, not_true_eq_false, not_false_eq_true, zcall_ok, zjn_ok, zbl_0, zbl_1, zu_eq, zu_a, zu_j, if_pos, if_neg, ge_iff_le, gt_iff_lt, ne_eq, Int.cast_ofNat_Int, Int.add_zero, Int.zero_add, Int.reduceAdd, Int.reduceSub, Int.reduceMul, Int.reduceNeg, gf_5, pf_5, vc_5, g_5_0 hG, g_5_1 hG, g_5_2 hG, g_5_3 hG, g_5_4 hG, g_5_5 hG, g_5_6 hG]
          · simp (disch := omega) only [s11_isShelf, zb_t, s11_within, if_true, if_false, not_true_eq_false, not_false_eq_true, zcall_ok, zjn_ok, zbl_0, zbl_1, zu_eq, zu_a, zu_j, if_pos, if_neg, ge_iff_le, gt_iff_lt, ne_eq, Int.cast_ofNat_Int, Int.add_zero, Int.zero_add, Int.reduceAdd, Int.reduceSub, Int.reduceMul, Int.reduceNeg, gf_129, pf_129, vc_129, g_129_0 hG, g_129_1 hG, g_129_2 hG, g_129_3 hG, g_129_7 hG, g_129_10 hG, g_129_11 hG, g_129_12 hG, g_129_13 hG, g_129_19 hG, g_129_21 hG, g_129_22 hG, g_129_23 hG, g_129_24 hG, g_129_25 hG, g_129_26 hG, g_129_28 hG, g_129_29 hG, g_129_33 hG, g_129_34 hG, g_129_35 hG, g_129_36 hG]
      · refine ⟨-1, μ, μ, ?_, ?_, hF⟩
        · simp (disch := omega) only [s10_isShelf, zb_t, if_true, if_false, not_true_eq_false, not_false_eq_true, zcall_ok, zjn_ok, zbl_0, zbl_1, zu_eq, zu_a, zu_j, if_pos, if_neg, ge_iff_le, gt_iff_lt, ne_eq, Int.cast_ofNat_Int, Int.add_zero, Int.zero_add, Int.reduceAdd, Int.reduceSub, Int.reduceMul, Int.reduceNeg, gf_5, pf_5, vc_5, g_5_0 hG, g_5_1 hG, g_5_2 hG, g_5_3 hG, g_5_4 hG, g_5_5 hG, g_5_6 hG]
        · simp (disch := omega) only [s11_isShelf, zb_t, s11_within, if_true, if_false, not_true_eq_false, not_false_eq_true, zcall_ok, zjn_ok, zbl_0, zbl_1, zu_eq, zu_a, zu_j, if_pos, if_neg, ge_iff_le, gt_iff_lt, ne_eq, Int.cast_ofNat_Int, Int.add_zero, Int.zero_add, Int.reduceAdd, Int.reduceSub, Int.reduceMul, Int.reduceNeg, gf_129, pf_129, vc_129, g_129_0 hG, g_129_1 hG, g_129_2 hG, g_129_3 hG, g_129_7 hG, g_129_10 hG, g_129_11 hG, g_129_12 hG, g_129_13 hG, g_129_19 hG, g_129_21 hG, g_129_22 hG, g_129_23 hG, g_129_24 hG, g_129_25 hG, g_129_26 hG, g_129_28 hG, g_129_29 hG, g_129_33 hG, g_129_34 hG, g_129_35 hG, g_129_36 hG]
    · refine ⟨-1, μ, μ, ?_, ?_, hF⟩
      · by_cases hs0 : s < 0
        · simp (disch := omega) only [s10_isShelf, zb_t, if_true, if_false, not_true_eq_false, not_false_eq_true, zcall_ok, zjn_ok, zbl_0, zbl_1, zu_eq, zu_a, zu_j, if_pos, if_neg, ge_iff_le, gt_iff_lt, ne_eq, Int.cast_ofNat_Int, Int.add_zero, Int.zero_add, Int.reduceAdd, Int.reduceSub, Int.reduceMul, Int.reduceNeg, gf_5, pf_5, vc_5, g_5_0 hG, g_5_1 hG, g_5_2 hG, g_5_3 hG, g_5_4 hG, g_5_5 hG, g_5_6 hG]
        · simp (disch := omega) only [s10_isShelf, zb_t, if_true, if_false, not_true_eq_false, not_false_eq_true, zcall_ok, zjn_ok, zbl_0, zbl_1, zu_eq, zu_a, zu_j, if_pos, if_neg, ge_iff_le, gt_iff_lt, ne_eq, Int.cast_ofNat_Int, Int.add_zero, Int.zero_add, Int.reduceAdd, Int.reduceSub, Int.reduceMul, Int.reduceNeg, gf_5, pf_5, vc_5, g_5_0 hG, g_5_1 hG, g_5_2 hG, g_5_3 hG, g_5_4 hG, g_5_5 hG, g_5_6 hG]
      · simp (disch := omega) only [s11_isShelf, zb_t, s11_within, zb_f, if_true, if_false, not_true_eq_false, not_false_eq_true, zcall_ok, zjn_ok, zbl_0, zbl_1, zu_eq, zu_a, zu_j, if_pos, if_neg, ge_iff_le, gt_iff_lt, ne_eq, Int.cast_ofNat_Int, Int.add_zero, Int.zero_add, Int.reduceAdd, Int.reduceSub, Int.reduceMul, Int.reduceNeg, gf_129, pf_129, vc_129, g_129_0 hG, g_129_1 hG, g_129_2 hG, g_129_3 hG, g_129_7 hG, g_129_10 hG, g_129_11 hG, g_129_12 hG, g_129_13 hG, g_129_19 hG, g_129_21 hG, g_129_22 hG, g_129_23 hG, g_129_24 hG, g_129_25 hG, g_129_26 hG, g_129_28 hG, g_129_29 hG, g_129_33 hG, g_129_34 hG, g_129_35 hG, g_129_36 hG]
  · refine ⟨-1, μ, μ, ?_, ?_, hF⟩
    · simp (disch := omega) only [s10_isShelf, zb_f, if_true, if_false, not_true_eq_false, not_false_eq_true, zcall_ok, zjn_ok, zbl_0, zbl_1, zu_eq, zu_a, zu_j, if_pos, if_neg, ge_iff_le, gt_iff_lt, ne_eq, Int.cast_ofNat_Int, Int.add_zero, Int.zero_add, Int.reduceAdd, Int.reduceSub, Int.reduceMul, Int.reduceNeg, gf_5, pf_5, vc_5, g_5_0 hG, g_5_1 hG, g_5_2 hG, g_5_3 hG, g_5_4 hG, g_5_5 hG, g_5_6 hG]
    · simp (disch := omega) only [s11_isShelf, zb_f, if_true, if_false, not_true_eq_false, not_false_eq_true, zcall_ok, zjn_ok, zbl_0, zbl_1, zu_eq, zu_a, zu_j, if_pos, if_neg, ge_iff_le, gt_iff_lt, ne_eq, Int.cast_ofNat_Int, Int.add_zero, Int.zero_add, Int.reduceAdd, Int.reduceSub, Int.reduceMul, Int.reduceNeg, gf_129, pf_129, vc_129, g_129_0 hG, g_129_1 hG, g_129_2 hG, g_129_3 hG, g_129_7 hG, g_129_10 hG, g_129_11 hG, g_129_12 hG, g_129_13 hG, g_129_19 hG, g_129_21 hG, g_129_22 hG, g_129_23 hG, g_129_24 hG, g_129_25 hG, g_129_26 hG, g_129_28 hG, g_129_29 hG, g_129_33 hG, g_129_34 hG, g_129_35 hG, g_129_36 hG]
