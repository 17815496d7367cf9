/-! ===== taken ===== -/
def zupk (v : Int) : Int := if v = 1 ∨ v = 4 ∨ v = 6 then 0 else if v = 2 ∨ v = 3 then 1 else if v = 5 then 3 else if v = 7 then 2 else -1
def zrk (v : Int) : Int := if v < 0 then 0 else if v = 0 then 1 else if v = 1 ∨ v = 4 ∨ v = 6 then 2 else if v = 2 ∨ v = 3 then 3 else 4
abbrev zanc (v t : Int) : Prop := v = t ∨ zupk v = t ∨ zupk (zupk v) = t ∨ zupk (zupk (zupk v)) = t
theorem znat8 {p : Int} (h0 : 0 ≤ p) (h : p < 8) : p = 0 ∨ p = 1 ∨ p = 2 ∨ p = 3 ∨ p = 4 ∨ p = 5 ∨ p = 6 ∨ p = 7 := by omega
theorem zABOVE {μ : zMem} (h : zG0 μ) {v : Int} (h0 : 0 ≤ v) (h1 : v < 8) : μ 3 v = zupk v := by
  rcases znat8 h0 h1 with rfl | rfl | rfl | rfl | rfl | rfl | rfl | rfl
  · exact h.2.2 3 0 (by decide) (by decide) (by decide +kernel)
  · exact h.2.2 3 1 (by decide) (by decide) (by decide +kernel)
  · exact h.2.2 3 2 (by decide) (by decide) (by decide +kernel)
  · exact h.2.2 3 3 (by decide) (by decide) (by decide +kernel)
  · exact h.2.2 3 4 (by decide) (by decide) (by decide +kernel)
  · exact h.2.2 3 5 (by decide) (by decide) (by decide +kernel)
  · exact h.2.2 3 6 (by decide) (by decide) (by decide +kernel)
  · exact h.2.2 3 7 (by decide) (by decide) (by decide +kernel)
theorem s11_above {μ : zMem} {v : Int} (h0 : 1 ≤ v) (h1 : v < 8) : fX11_above v μ = some (zupk v, μ) := by
  rcases znat8 (by omega) h1 with rfl | rfl | rfl | rfl | rfl | rfl | rfl | rfl
  · omega
  all_goals rfl
theorem zupk_in {v : Int} (h0 : 0 ≤ v) (h1 : v < 8) : -1 ≤ zupk v ∧ zupk v < 8 ∧ zrk (zupk v) < zrk v ∧ (1 ≤ v → 0 ≤ zupk v) := by
  rcases znat8 h0 h1 with rfl | rfl | rfl | rfl | rfl | rfl | rfl | rfl <;> decide
theorem zanc_s {v t : Int} (h0 : 0 ≤ v) (h1 : v < 8) (ht : 0 ≤ t) : zanc v t ↔ v = t ∨ zanc (zupk v) t := by
  have : zupk (zupk (zupk (zupk v))) = -1 := by
    rcases znat8 h0 h1 with rfl | rfl | rfl | rfl | rfl | rfl | rfl | rfl <;> rfl
  unfold zanc
  rw [this]
  omega
theorem zanc_m {t : Int} (ht : 0 ≤ t) : ¬ zanc (-1) t := by
  unfold zanc
  rw [show zupk (-1) = -1 from rfl]
  rw [show zupk (-1) = -1 from rfl]
  rw [show zupk (-1) = -1 from rfl]
  omega
theorem zanc_0 {t : Int} (ht : 0 ≤ t) : zanc 0 t ↔ 0 = t := by
  rw [zanc_s (by omega) (by omega) ht, show zupk 0 = -1 from rfl]
  exact ⟨fun h => h.elim id (fun q => absurd q (zanc_m ht)), Or.inl⟩
theorem zb_congr {c d : Prop} [Decidable c] [Decidable d] (h : c ↔ d) : zb c = zb d := by
  by_cases hc : c
  · rw [zb_t hc, zb_t (h.mp hc)]
  · rw [zb_f hc, zb_f (fun q => hc (h.mpr q))]
theorem s0_isKind {μ : zMem} (x : Int) : fX0_isKind x μ = some (zb (0 ≤ x ∧ x < 8), μ) := by
  unfold fX0_isKind
  by_cases h0 : x < 0
  · simp (disch := omega) only [zb_f, if_true, if_false, not_true_eq_false, not_false_eq_true, zcall_ok, zjn_ok, zbl_0, zbl_1, zu_eq, zu_a, zu_j, if_pos, if_neg, ge_iff_le, gt_iff_lt, ne_eq, Int.cast_ofNat_Int, Int.add_zero, Int.zero_add, Int.reduceAdd, Int.reduceSub, Int.reduceMul, Int.reduceNeg, gf_6, pf_6, vc_6]
  · by_cases h1 : x ≥ 8
    · simp (disch := omega) only [zb_f, if_true, if_false, not_true_eq_false, not_false_eq_true, zcall_ok, zjn_ok, zbl_0, zbl_1, zu_eq, zu_a, zu_j, if_pos, if_neg, ge_iff_le, gt_iff_lt, ne_eq, Int.cast_ofNat_Int, Int.add_zero, Int.zero_add, Int.reduceAdd, Int.reduceSub, Int.reduceMul, Int.reduceNeg, gf_6, pf_6, vc_6]
    · simp (disch := omega) only [zb_t, if_true, if_false, not_true_eq_false, not_false_eq_true, zcall_ok, zjn_ok, zbl_0, zbl_1, zu_eq, zu_a, zu_j, if_pos, if_neg, ge_iff_le, gt_iff_lt, ne_eq, Int.cast_ofNat_Int, Int.add_zero, Int.zero_add, Int.reduceAdd, Int.reduceSub, Int.reduceMul, Int.reduceNeg, gf_6, pf_6, vc_6]
theorem s0_isUnder {μ : zMem} (hG : zG0 μ) {v t : Int} (hv : -1 ≤ v ∧ v < 8) (ht : 0 ≤ t ∧ t < 8) : fX0_isUnder v t μ = some (zb (zanc v t), μ) := by
  unfold fX0_isUnder
  refine zlp_meas (fun k (f : Int → Int → zMem → zRs) => ∀ (x n : Int), -1 ≤ x → x < 8 → 0 ≤ n → n + zrk x ≤ 7 → zrk x < k → f x n μ = some (zb (zanc x t), μ)) ?_ ?_ 1000000 v 0 hv.1 hv.2 (by omega) (by unfold zrk; omega) (by unfold zrk; omega)
  · intro x n _ _ _ _ h5
    have : 0 ≤ zrk x := by unfold zrk; omega
    omega
  · intro k f ih x n h1 h2 h3 h4 h5
    have h6 : 0 ≤ zrk x := by unfold zrk; omega
    by_cases hx : x = -1
    · subst hx
      simp (disch := omega) only [s0_isKind, zb_f, if_true, if_false, not_true_eq_false, not_false_eq_true, zcall_ok, zjn_ok, zbl_0, zbl_1, zu_eq, zu_a, zu_j, if_pos, if_neg, ge_iff_le, gt_iff_lt, ne_eq, Int.cast_ofNat_Int, Int.add_zero, Int.zero_add, Int.reduceAdd, Int.reduceSub, Int.reduceMul, Int.reduceNeg, al_3]
      rw [zb_f (zanc_m ht.1)]
    · by_cases he : x = t
      · simp (disch := omega) only [s0_isKind, zb_t, zb_f, if_true, if_false, not_true_eq_false, not_false_eq_true, zcall_ok, zjn_ok, zbl_0, zbl_1, zu_eq, zu_a, zu_j, if_pos, if_neg, ge_iff_le, gt_iff_lt, ne_eq, Int.cast_ofNat_Int, Int.add_zero, Int.zero_add, Int.reduceAdd, Int.reduceSub, Int.reduceMul, Int.reduceNeg, al_3]
      · obtain ⟨u1, u2, u3, -⟩ := zupk_in (show 0 ≤ x by omega) h2
        have := ih (zupk x) (n + 1) u1 u2 (by omega) (by omega) (by omega)
        simp (disch := omega) only [s0_isKind, zb_t, zb_f, zABOVE hG, zw32_id, if_true, if_false, not_true_eq_false, not_false_eq_true, zcall_ok, zjn_ok, zbl_0, zbl_1, zu_eq, zu_a, zu_j, if_pos, if_neg, ge_iff_le, gt_iff_lt, ne_eq, Int.cast_ofNat_Int, Int.add_zero, Int.zero_add, Int.reduceAdd, Int.reduceSub, Int.reduceMul, Int.reduceNeg, al_3]
        rw [this]
        congr 2
        exact zb_congr ⟨fun q => (zanc_s (by omega) h2 ht.1).mpr (Or.inr q), fun q => ((zanc_s (by omega) h2 ht.1).mp q).elim (fun z => absurd z he) id⟩
theorem op_taken {μ : zMem} (hG : zG0 μ) (hF : zGF μ) (hB : zGB μ) (d t : Int) : ∃ r, fX10_taken 5 d t μ = some (r, μ) ∧ fX11_taken 129 d t μ = some (r, μ) := by
  have hz := zbF_eq d
  have hN := hF.2.1
  unfold fX10_taken fX11_taken
  by_cases hd : 0 ≤ d ∧ d < 6
  · by_cases ht : 0 ≤ t ∧ t < 8
    · rcases hF.2.2 d hd.1 hd.2 with ⟨a, b, c, e⟩ | ⟨a, b, c, e, f, g, h, i⟩
      · by_cases hb : μ (zbF d) 1 = -1
        · refine ⟨-11, ?_, ?_⟩
          · simp (disch := omega) only [↓(zcall_of (s10_isShelf d)), ↓(zcall_of (s0_isKind t)), ↓aq_116 hG, ↓(vcF_of hd.1 hd.2 (s8_isBare hd)), ↓(vcF_of hd.1 hd.2 (s8_holdsRow hd)), ↓gfF, gfF, ↓vcF, vcF, ↓zcall_ok, zcall_ok, ↓zjn_ok, zjn_ok, ↓zbl_0, zbl_0, ↓zbl_1, zbl_1, ↓if_pos, if_pos, ↓if_neg, if_neg, ↓zb_ite, zb_ite, ↓zb_itn, zb_itn, ↓gf_5, gf_5, ↓pf_5, pf_5, ↓vc_5, vc_5, ↓al_116, al_116, ↓ln_116, ln_116, if_true, if_false, not_true_eq_false, not_false_eq_true, zu_eq, zu_a, zu_j, ge_iff_le, gt_iff_lt, ne_eq, Int.cast_ofNat_Int, Int.add_zero, Int.zero_add, Int.reduceAdd, Int.reduceSub, Int.reduceMul, Int.reduceNeg, ↓gq_5_0 hG, ↓gq_5_1 hG, ↓gq_5_2 hG, ↓gq_5_3 hG, ↓gq_5_4 hG, ↓gq_5_5 hG, ↓gq_5_6 hG, g_5_0 hG, g_5_1 hG, g_5_2 hG, g_5_3 hG, g_5_4 hG, g_5_5 hG, g_5_6 hG, g_116_0 hG, g_116_1 hG, g_116_2 hG, g_116_3 hG, g_116_4 hG, g_116_5 hG]
          · simp (disch := omega) only [↓(zcall_of (s11_isShelf d)), ↓(zcall_of (s11_within t 0 7)), ↓zcall_ok, zcall_ok, ↓zjn_ok, zjn_ok, ↓zbl_0, zbl_0, ↓zbl_1, zbl_1, ↓if_pos, if_pos, ↓if_neg, if_neg, ↓zb_ite, zb_ite, ↓zb_itn, zb_itn, ↓gf_129, gf_129, ↓pf_129, pf_129, ↓vc_129, vc_129, ↓al_148, al_148, ↓as_148, as_148, ↓ln_148, ln_148, if_true, if_false, not_true_eq_false, not_false_eq_true, zu_eq, zu_a, zu_j, ge_iff_le, gt_iff_lt, ne_eq, Int.cast_ofNat_Int, Int.add_zero, Int.zero_add, Int.reduceAdd, Int.reduceSub, Int.reduceMul, Int.reduceNeg, ↓gq_129_0 hG, ↓gq_129_1 hG, ↓gq_129_2 hG, ↓gq_129_3 hG, ↓gq_129_7 hG, ↓gq_129_10 hG, ↓gq_129_11 hG, ↓gq_129_12 hG, ↓gq_129_13 hG, ↓gq_129_19 hG, ↓gq_129_21 hG, ↓gq_129_22 hG, ↓gq_129_23 hG, ↓gq_129_24 hG, ↓gq_129_25 hG, ↓gq_129_26 hG, ↓gq_129_28 hG, ↓gq_129_29 hG, ↓gq_129_33 hG, ↓gq_129_34 hG, ↓gq_129_35 hG, ↓gq_129_36 hG, g_129_0 hG, g_129_1 hG, g_129_2 hG, g_129_3 hG, g_129_7 hG, g_129_10 hG, g_129_11 hG, g_129_12 hG, g_129_13 hG, g_129_19 hG, g_129_21 hG, g_129_22 hG, g_129_23 hG, g_129_24 hG, g_129_25 hG, g_129_26 hG, g_129_28 hG, g_129_29 hG, g_129_33 hG, g_129_34 hG, g_129_35 hG, g_129_36 hG]
        · have k1 := hB.1.2.2.2.1 (μ (zbF d) 1) (by omega) (by omega)
          have k2 := hB.1.2.2.2.2 (μ (zbF d) 1) (by omega) (by omega)
          refine ⟨if zanc (μ 114 (μ (zbF d) 1)) t then μ 114 (μ (zbF d) 1) else -12, ?_, ?_⟩
          · unfold fX8_heldBody fX0_kindOf
            simp (disch := omega) only [↓(zcall_of (s10_isShelf d)), ↓(zcall_of (s0_isKind t)), ↓aq_116 hG, ↓(vcF_of hd.1 hd.2 (s8_isBare hd)), ↓(vcF_of hd.1 hd.2 (s8_holdsRow hd)), ↓gfF, gfF, ↓vcF, vcF, s0_has, s0_isUnder hG, ↓zcall_ok, zcall_ok, ↓zjn_ok, zjn_ok, ↓zbl_0, zbl_0, ↓zbl_1, zbl_1, ↓if_pos, if_pos, ↓if_neg, if_neg, ↓zb_ite, zb_ite, ↓zb_itn, zb_itn, ↓gf_5, gf_5, ↓pf_5, pf_5, ↓vc_5, vc_5, ↓gf_113, gf_113, ↓pf_113, pf_113, ↓vc_113, vc_113, ↓al_114, al_114, ↓as_114, as_114, ↓ln_114, ln_114, ↓al_116, al_116, ↓ln_116, ln_116, if_true, if_false, not_true_eq_false, not_false_eq_true, zu_eq, zu_a, zu_j, ge_iff_le, gt_iff_lt, ne_eq, Int.cast_ofNat_Int, Int.add_zero, Int.zero_add, Int.reduceAdd, Int.reduceSub, Int.reduceMul, Int.reduceNeg, ↓gq_5_0 hG, ↓gq_5_1 hG, ↓gq_5_2 hG, ↓gq_5_3 hG, ↓gq_5_4 hG, ↓gq_5_5 hG, ↓gq_5_6 hG, ↓gq_113_0 hG, ↓gq_113_1 hG, g_5_0 hG, g_5_1 hG, g_5_2 hG, g_5_3 hG, g_5_4 hG, g_5_5 hG, g_5_6 hG, g_113_0 hG, g_113_1 hG, g_116_0 hG, g_116_1 hG, g_116_2 hG, g_116_3 hG, g_116_4 hG, g_116_5 hG]
            by_cases hu : zanc (μ 114 (μ (zbF d) 1)) t
            · rw [if_pos hu, if_pos hu]
            · rw [if_neg hu, if_neg hu]
          · unfold fX11_kindOf
            simp (disch := omega) only [↓(zcall_of (s11_isShelf d)), ↓(zcall_of (s11_within t 0 7)), k2, e, ↓zcall_ok, zcall_ok, ↓zjn_ok, zjn_ok, ↓zbl_0, zbl_0, ↓zbl_1, zbl_1, ↓if_pos, if_pos, ↓if_neg, if_neg, ↓zb_ite, zb_ite, ↓zb_itn, zb_itn, ↓gf_129, gf_129, ↓pf_129, pf_129, ↓vc_129, vc_129, ↓al_146, al_146, ↓as_146, as_146, ↓ln_146, ln_146, ↓al_148, al_148, ↓as_148, as_148, ↓ln_148, ln_148, if_true, if_false, not_true_eq_false, not_false_eq_true, zu_eq, zu_a, zu_j, ge_iff_le, gt_iff_lt, ne_eq, Int.cast_ofNat_Int, Int.add_zero, Int.zero_add, Int.reduceAdd, Int.reduceSub, Int.reduceMul, Int.reduceNeg, ↓gq_129_0 hG, ↓gq_129_1 hG, ↓gq_129_2 hG, ↓gq_129_3 hG, ↓gq_129_7 hG, ↓gq_129_10 hG, ↓gq_129_11 hG, ↓gq_129_12 hG, ↓gq_129_13 hG, ↓gq_129_19 hG, ↓gq_129_21 hG, ↓gq_129_22 hG, ↓gq_129_23 hG, ↓gq_129_24 hG, ↓gq_129_25 hG, ↓gq_129_26 hG, ↓gq_129_28 hG, ↓gq_129_29 hG, ↓gq_129_33 hG, ↓gq_129_34 hG, ↓gq_129_35 hG, ↓gq_129_36 hG, g_129_0 hG, g_129_1 hG, g_129_2 hG, g_129_3 hG, g_129_7 hG, g_129_10 hG, g_129_11 hG, g_129_12 hG, g_129_13 hG, g_129_19 hG, g_129_21 hG, g_129_22 hG, g_129_23 hG, g_129_24 hG, g_129_25 hG, g_129_26 hG, g_129_28 hG, g_129_29 hG, g_129_33 hG, g_129_34 hG, g_129_35 hG, g_129_36 hG]
            refine zlp_meas (fun k (f : Int → zMem → zRs) => ∀ (x : Int), 0 ≤ x → x < 8 → zrk x < k → f x μ = some (if zanc x t then μ 114 (μ (zbF d) 1) else -12, μ)) ?_ ?_ 1000000 _ k1.1 k1.2 (by unfold zrk; omega)
            · intro x h1 h2 h3
              have : 0 ≤ zrk x := by unfold zrk; omega
              omega
            · intro k f ih x h1 h2 h3
              by_cases he : x = t
              · rw [if_pos (show zanc x t by unfold zanc; exact Or.inl he)]
                simp (disch := omega) only [k2, e, if_true, if_false, not_true_eq_false, not_false_eq_true, zcall_ok, zjn_ok, zbl_0, zbl_1, zu_eq, zu_a, zu_j, if_pos, if_neg, ge_iff_le, gt_iff_lt, ne_eq, Int.cast_ofNat_Int, Int.add_zero, Int.zero_add, Int.reduceAdd, Int.reduceSub, Int.reduceMul, Int.reduceNeg, gf_129, pf_129, vc_129, al_146, as_146, ln_146, al_148, as_148, ln_148, g_129_0 hG, g_129_1 hG, g_129_2 hG, g_129_3 hG, g_129_7 hG, g_129_10 hG, g_129_11 hG, g_129_12 hG, g_129_13 hG, g_129_19 hG, g_129_21 hG, g_129_22 hG, g_129_23 hG, g_129_24 hG, g_129_25 hG, g_129_26 hG, g_129_28 hG, g_129_29 hG, g_129_33 hG, g_129_34 hG, g_129_35 hG, g_129_36 hG]
              · by_cases h0 : x = 0
                · rw [h0, if_neg (show ¬ zanc 0 t by rw [zanc_0 ht.1]; omega)]
                  simp (disch := omega) only [k2, e, if_true, if_false, not_true_eq_false, not_false_eq_true, zcall_ok, zjn_ok, zbl_0, zbl_1, zu_eq, zu_a, zu_j, if_pos, if_neg, ge_iff_le, gt_iff_lt, ne_eq, Int.cast_ofNat_Int, Int.add_zero, Int.zero_add, Int.reduceAdd, Int.reduceSub, Int.reduceMul, Int.reduceNeg, gf_129, pf_129, vc_129, al_146, as_146, ln_146, al_148, as_148, ln_148, g_129_0 hG, g_129_1 hG, g_129_2 hG, g_129_3 hG, g_129_7 hG, g_129_10 hG, g_129_11 hG, g_129_12 hG, g_129_13 hG, g_129_19 hG, g_129_21 hG, g_129_22 hG, g_129_23 hG, g_129_24 hG, g_129_25 hG, g_129_26 hG, g_129_28 hG, g_129_29 hG, g_129_33 hG, g_129_34 hG, g_129_35 hG, g_129_36 hG]
                · obtain ⟨u1, u2, u3, u4⟩ := zupk_in h1 h2
                  have := ih (zupk x) (u4 (by omega)) u2 (by omega)
                  simp (disch := omega) only [s11_above, if_true, if_false, not_true_eq_false, not_false_eq_true, zcall_ok, zjn_ok, zbl_0, zbl_1, zu_eq, zu_a, zu_j, if_pos, if_neg, ge_iff_le, gt_iff_lt, ne_eq, Int.cast_ofNat_Int, Int.add_zero, Int.zero_add, Int.reduceAdd, Int.reduceSub, Int.reduceMul, Int.reduceNeg, gf_129, pf_129, vc_129, al_146, as_146, ln_146, al_148, as_148, ln_148, g_129_0 hG, g_129_1 hG, g_129_2 hG, g_129_3 hG, g_129_7 hG, g_129_10 hG, g_129_11 hG, g_129_12 hG, g_129_13 hG, g_129_19 hG, g_129_21 hG, g_129_22 hG, g_129_23 hG, g_129_24 hG, g_129_25 hG, g_129_26 hG, g_129_28 hG, g_129_29 hG, g_129_33 hG, g_129_34 hG, g_129_35 hG, g_129_36 hG]
                  rw [this]
                  congr 2
                  by_cases q : zanc (zupk x) t
                  · rw [if_pos q, if_pos ((zanc_s h1 h2 ht.1).mpr (Or.inr q))]
                  · rw [if_neg q, if_neg (fun z => ((zanc_s h1 h2 ht.1).mp z).elim he q)]
      · refine ⟨-12, ?_, ?_⟩
        · simp (disch := omega) only [↓(zcall_of (s10_isShelf d)), ↓(zcall_of (s0_isKind t)), ↓aq_116 hG, ↓(vcF_of hd.1 hd.2 (s8_isBare hd)), ↓(vcF_of hd.1 hd.2 (s8_holdsRow hd)), ↓gfF, gfF, ↓vcF, vcF, s0_isUnder hG, ↓zcall_ok, zcall_ok, ↓zjn_ok, zjn_ok, ↓zbl_0, zbl_0, ↓zbl_1, zbl_1, ↓if_pos, if_pos, ↓if_neg, if_neg, ↓zb_ite, zb_ite, ↓zb_itn, zb_itn, ↓gf_5, gf_5, ↓pf_5, pf_5, ↓vc_5, vc_5, ↓al_116, al_116, ↓ln_116, ln_116, if_true, if_false, not_true_eq_false, not_false_eq_true, zu_eq, zu_a, zu_j, ge_iff_le, gt_iff_lt, ne_eq, Int.cast_ofNat_Int, Int.add_zero, Int.zero_add, Int.reduceAdd, Int.reduceSub, Int.reduceMul, Int.reduceNeg, ↓gq_5_0 hG, ↓gq_5_1 hG, ↓gq_5_2 hG, ↓gq_5_3 hG, ↓gq_5_4 hG, ↓gq_5_5 hG, ↓gq_5_6 hG, g_5_0 hG, g_5_1 hG, g_5_2 hG, g_5_3 hG, g_5_4 hG, g_5_5 hG, g_5_6 hG, g_116_0 hG, g_116_1 hG, g_116_2 hG, g_116_3 hG, g_116_4 hG, g_116_5 hG]
          rw [if_neg (zanc_m ht.1)]
        · simp (disch := omega) only [↓(zcall_of (s11_isShelf d)), ↓(zcall_of (s11_within t 0 7)), ↓zcall_ok, zcall_ok, ↓zjn_ok, zjn_ok, ↓zbl_0, zbl_0, ↓zbl_1, zbl_1, ↓if_pos, if_pos, ↓if_neg, if_neg, ↓zb_ite, zb_ite, ↓zb_itn, zb_itn, ↓gf_129, gf_129, ↓pf_129, pf_129, ↓vc_129, vc_129, ↓al_148, al_148, ↓as_148, as_148, ↓ln_148, ln_148, if_true, if_false, not_true_eq_false, not_false_eq_true, zu_eq, zu_a, zu_j, ge_iff_le, gt_iff_lt, ne_eq, Int.cast_ofNat_Int, Int.add_zero, Int.zero_add, Int.reduceAdd, Int.reduceSub, Int.reduceMul, Int.reduceNeg, ↓gq_129_0 hG, ↓gq_129_1 hG, ↓gq_129_2 hG, ↓gq_129_3 hG, ↓gq_129_7 hG, ↓gq_129_10 hG, ↓gq_129_11 hG, ↓gq_129_12 hG, ↓gq_129_13 hG, ↓gq_129_19 hG, ↓gq_129_21 hG, ↓gq_129_22 hG, ↓gq_129_23 hG, ↓gq_129_24 hG, ↓gq_129_25 hG, ↓gq_129_26 hG, ↓gq_129_28 hG, ↓gq_129_29 hG, ↓gq_129_33 hG, ↓gq_129_34 hG, ↓gq_129_35 hG, ↓gq_129_36 hG, g_129_0 hG, g_129_1 hG, g_129_2 hG, g_129_3 hG, g_129_7 hG, g_129_10 hG, g_129_11 hG, g_129_12 hG, g_129_13 hG, g_129_19 hG, g_129_21 hG, g_129_22 hG, g_129_23 hG, g_129_24 hG, g_129_25 hG, g_129_26 hG, g_129_28 hG, g_129_29 hG, g_129_33 hG, g_129_34 hG, g_129_35 hG, g_129_36 hG]
    · refine ⟨-1, ?_, ?_⟩
      · simp (disch := omega) only [↓(zcall_of (s10_isShelf d)), ↓(zcall_of (s0_isKind t)), ↓aq_116 hG, ↓(vcF_of hd.1 hd.2 (s8_isBare hd)), ↓(vcF_of hd.1 hd.2 (s8_holdsRow hd)), ↓gfF, gfF, ↓vcF, vcF, ↓zcall_ok, zcall_ok, ↓zjn_ok, zjn_ok, ↓zbl_0, zbl_0, ↓zbl_1, zbl_1, ↓if_pos, if_pos, ↓if_neg, if_neg, ↓zb_ite, zb_ite, ↓zb_itn, zb_itn, ↓gf_5, gf_5, ↓pf_5, pf_5, ↓vc_5, vc_5, if_true, if_false, not_true_eq_false, not_false_eq_true, zu_eq, zu_a, zu_j, ge_iff_le, gt_iff_lt, ne_eq, Int.cast_ofNat_Int, Int.add_zero, Int.zero_add, Int.reduceAdd, Int.reduceSub, Int.reduceMul, Int.reduceNeg, ↓gq_5_0 hG, ↓gq_5_1 hG, ↓gq_5_2 hG, ↓gq_5_3 hG, ↓gq_5_4 hG, ↓gq_5_5 hG, ↓gq_5_6 hG, g_5_0 hG, g_5_1 hG, g_5_2 hG, g_5_3 hG, g_5_4 hG, g_5_5 hG, g_5_6 hG]
      · simp (disch := omega) only [↓(zcall_of (s11_isShelf d)), ↓(zcall_of (s11_within t 0 7)), ↓zcall_ok, zcall_ok, ↓zjn_ok, zjn_ok, ↓zbl_0, zbl_0, ↓zbl_1, zbl_1, ↓if_pos, if_pos, ↓if_neg, if_neg, ↓zb_ite, zb_ite, ↓zb_itn, zb_itn, ↓gf_129, gf_129, ↓pf_129, pf_129, ↓vc_129, vc_129, if_true, if_false, not_true_eq_false, not_false_eq_true, zu_eq, zu_a, zu_j, ge_iff_le, gt_iff_lt, ne_eq, Int.cast_ofNat_Int, Int.add_zero, Int.zero_add, Int.reduceAdd, Int.reduceSub, Int.reduceMul, Int.reduceNeg, ↓gq_129_0 hG, ↓gq_129_1 hG, ↓gq_129_2 hG, ↓gq_129_3 hG, ↓gq_129_7 hG, ↓gq_129_10 hG, ↓gq_129_11 hG, ↓gq_129_12 hG, ↓gq_129_13 hG, ↓gq_129_19 hG, ↓gq_129_21 hG, ↓gq_129_22 hG, ↓gq_129_23 hG, ↓gq_129_24 hG, ↓gq_129_25 hG, ↓gq_129_26 hG, ↓gq_129_28 hG, ↓gq_129_29 hG, ↓gq_129_33 hG, ↓gq_129_34 hG, ↓gq_129_35 hG, ↓gq_129_36 hG, g_129_0 hG, g_129_1 hG, g_129_2 hG, g_129_3 hG, g_129_7 hG, g_129_10 hG, g_129_11 hG, g_129_12 hG, g_129_13 hG, g_129_19 hG, g_129_21 hG, g_129_22 hG, g_129_23 hG, g_129_24 hG, g_129_25 hG, g_129_26 hG, g_129_28 hG, g_129_29 hG, g_129_33 hG, g_129_34 hG, g_129_35 hG, g_129_36 hG]
  · refine ⟨-1, ?_, ?_⟩
    · simp (disch := omega) only [↓(zcall_of (s10_isShelf d)), ↓zcall_ok, zcall_ok, ↓zjn_ok, zjn_ok, ↓zbl_0, zbl_0, ↓zbl_1, zbl_1, ↓if_pos, if_pos, ↓if_neg, if_neg, ↓zb_ite, zb_ite, ↓zb_itn, zb_itn, ↓gf_5, gf_5, ↓pf_5, pf_5, ↓vc_5, vc_5, if_true, if_false, not_true_eq_false, not_false_eq_true, zu_eq, zu_a, zu_j, ge_iff_le, gt_iff_lt, ne_eq, Int.cast_ofNat_Int, Int.add_zero, Int.zero_add, Int.reduceAdd, Int.reduceSub, Int.reduceMul, Int.reduceNeg, ↓gq_5_0 hG, ↓gq_5_1 hG, ↓gq_5_2 hG, ↓gq_5_3 hG, ↓gq_5_4 hG, ↓gq_5_5 hG, ↓gq_5_6 hG, g_5_0 hG, g_5_1 hG, g_5_2 hG, g_5_3 hG, g_5_4 hG, g_5_5 hG, g_5_6 hG]
    · simp (disch := omega) only [↓(zcall_of (s11_isShelf d)), ↓zcall_ok, zcall_ok, ↓zjn_ok, zjn_ok, ↓zbl_0, zbl_0, ↓zbl_1, zbl_1, ↓if_pos, if_pos, ↓if_neg, if_neg, ↓zb_ite, zb_ite, ↓zb_itn, zb_itn, ↓gf_129, gf_129, ↓pf_129, pf_129, ↓vc_129, vc_129, if_true, if_false, not_true_eq_false, not_false_eq_true, zu_eq, zu_a, zu_j, ge_iff_le, gt_iff_lt, ne_eq, Int.cast_ofNat_Int, Int.add_zero, Int.zero_add, Int.reduceAdd, Int.reduceSub, Int.reduceMul, Int.reduceNeg, ↓gq_129_0 hG, ↓gq_129_1 hG, ↓gq_129_2 hG, ↓gq_129_3 hG, ↓gq_129_7 hG, ↓gq_129_10 hG, ↓gq_129_11 hG, ↓gq_129_12 hG, ↓gq_129_13 hG, ↓gq_129_19 hG, ↓gq_129_21 hG, ↓gq_129_22 hG, ↓gq_129_23 hG, ↓gq_129_24 hG, ↓gq_129_25 hG, ↓gq_129_26 hG, ↓gq_129_28 hG, ↓gq_129_29 hG, ↓gq_129_33 hG, ↓gq_129_34 hG, ↓gq_129_35 hG, ↓gq_129_36 hG, g_129_0 hG, g_129_1 hG, g_129_2 hG, g_129_3 hG, g_129_7 hG, g_129_10 hG, g_129_11 hG, g_129_12 hG, g_129_13 hG, g_129_19 hG, g_129_21 hG, g_129_22 hG, g_129_23 hG, g_129_24 hG, g_129_25 hG, g_129_26 hG, g_129_28 hG, g_129_29 hG, g_129_33 hG, g_129_34 hG, g_129_35 hG, g_129_36 hG]
