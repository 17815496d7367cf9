/-! ===== act ===== -/
def znC (n : Int) (u : zMem) : zMem := zupd (if u 113 3 < 24 then zupd u 115 (u 113 3) n else u) 113 3 (u 113 3 + 1)
def znR (n : Int) (u : zMem) : zMem := zupd (if u 129 30 < 24 then zupd u 147 (u 129 30) n else u) 129 30 (u 129 30 + 1)
def zfC : List Int → zMem → zMem
  | [], u => u
  | n :: t, u => zfC t (znC n u)
def zfR : List Int → zMem → zMem
  | [], u => u
  | n :: t, u => zfR t (znR n u)
theorem zfC_app : ∀ (a b : List Int) (u : zMem), zfC (a ++ b) u = zfC b (zfC a u)
  | [], _, _ => rfl
  | _ :: t, b, u => zfC_app t b _
theorem zfR_app : ∀ (a b : List Int) (u : zMem), zfR (a ++ b) u = zfR b (zfR a u)
  | [], _, _ => rfl
  | _ :: t, b, u => zfR_app t b _
def zHC (A K c : Int) (u : zMem) : Prop := zG0 u ∧ u 113 4 = A ∧ (0 ≤ A ∧ A < u 113 2 ∧ u 113 2 ≤ 50) ∧ u 114 A = K ∧ 0 ≤ u 113 3 ∧ u 113 3 ≤ c
def zHR (A K c : Int) (u : zMem) : Prop := zG0 u ∧ u 129 32 = A ∧ u 129 31 = K ∧ 0 ≤ u 129 30 ∧ u 129 30 ≤ c
theorem zHC_n {A K c n : Int} {u : zMem} (h : zHC A K c u) : zHC A K (c + 1) (znC n u) := by
  obtain ⟨h1, h2, h3, h4, h5, h6⟩ := h
  unfold znC
  by_cases hr : u 113 3 < 24
  · rw [if_pos hr]
    refine ⟨zG0_up (zG0_up h1 (show zrfs 115 _ = false from rfl)) rfl, by simp (disch := omega) only [if_true, if_false, not_true_eq_false, not_false_eq_true, zcall_ok, zjn_ok, zbl_0, zbl_1, zu_eq, zu_a, zu_j, if_pos, if_neg, ge_iff_le, gt_iff_lt, ne_eq, Int.cast_ofNat_Int, Int.add_zero, Int.zero_add, Int.reduceAdd, Int.reduceSub, Int.reduceMul, Int.reduceNeg, gf_6, pf_6, vc_6]; exact h2, by simp (disch := omega) only [if_true, if_false, not_true_eq_false, not_false_eq_true, zcall_ok, zjn_ok, zbl_0, zbl_1, zu_eq, zu_a, zu_j, if_pos, if_neg, ge_iff_le, gt_iff_lt, ne_eq, Int.cast_ofNat_Int, Int.add_zero, Int.zero_add, Int.reduceAdd, Int.reduceSub, Int.reduceMul, Int.reduceNeg, gf_6, pf_6, vc_6]; exact h3, by simp (disch := omega) only [if_true, if_false, not_true_eq_false, not_false_eq_true, zcall_ok, zjn_ok, zbl_0, zbl_1, zu_eq, zu_a, zu_j, if_pos, if_neg, ge_iff_le, gt_iff_lt, ne_eq, Int.cast_ofNat_Int, Int.add_zero, Int.zero_add, Int.reduceAdd, Int.reduceSub, Int.reduceMul, Int.reduceNeg, gf_6, pf_6, vc_6]; exact h4, by simp (disch := omega) only [if_true, if_false, not_true_eq_false, not_false_eq_true, zcall_ok, zjn_ok, zbl_0, zbl_1, zu_eq, zu_a, zu_j, if_pos, if_neg, ge_iff_le, gt_iff_lt, ne_eq, Int.cast_ofNat_Int, Int.add_zero, Int.zero_add, Int.reduceAdd, Int.reduceSub, Int.reduceMul, Int.reduceNeg, gf_6, pf_6, vc_6]; omega, by simp (disch := omega) only [if_true, if_false, not_true_eq_false, not_false_eq_true, zcall_ok, zjn_ok, zbl_0, zbl_1, zu_eq, zu_a, zu_j, if_pos, if_neg, ge_iff_le, gt_iff_lt, ne_eq, Int.cast_ofNat_Int, Int.add_zero, Int.zero_add, Int.reduceAdd, Int.reduceSub, Int.reduceMul, Int.reduceNeg, gf_6, pf_6, vc_6]; omega⟩
  · rw [if_neg hr]
    refine ⟨zG0_up h1 rfl, by simp (disch := omega) only [if_true, if_false, not_true_eq_false, not_false_eq_true, zcall_ok, zjn_ok, zbl_0, zbl_1, zu_eq, zu_a, zu_j, if_pos, if_neg, ge_iff_le, gt_iff_lt, ne_eq, Int.cast_ofNat_Int, Int.add_zero, Int.zero_add, Int.reduceAdd, Int.reduceSub, Int.reduceMul, Int.reduceNeg, gf_6, pf_6, vc_6]; exact h2, by simp (disch := omega) only [if_true, if_false, not_true_eq_false, not_false_eq_true, zcall_ok, zjn_ok, zbl_0, zbl_1, zu_eq, zu_a, zu_j, if_pos, if_neg, ge_iff_le, gt_iff_lt, ne_eq, Int.cast_ofNat_Int, Int.add_zero, Int.zero_add, Int.reduceAdd, Int.reduceSub, Int.reduceMul, Int.reduceNeg, gf_6, pf_6, vc_6]; exact h3, by simp (disch := omega) only [if_true, if_false, not_true_eq_false, not_false_eq_true, zcall_ok, zjn_ok, zbl_0, zbl_1, zu_eq, zu_a, zu_j, if_pos, if_neg, ge_iff_le, gt_iff_lt, ne_eq, Int.cast_ofNat_Int, Int.add_zero, Int.zero_add, Int.reduceAdd, Int.reduceSub, Int.reduceMul, Int.reduceNeg, gf_6, pf_6, vc_6]; exact h4, by simp (disch := omega) only [if_true, if_false, not_true_eq_false, not_false_eq_true, zcall_ok, zjn_ok, zbl_0, zbl_1, zu_eq, zu_a, zu_j, if_pos, if_neg, ge_iff_le, gt_iff_lt, ne_eq, Int.cast_ofNat_Int, Int.add_zero, Int.zero_add, Int.reduceAdd, Int.reduceSub, Int.reduceMul, Int.reduceNeg, gf_6, pf_6, vc_6]; omega, by simp (disch := omega) only [if_true, if_false, not_true_eq_false, not_false_eq_true, zcall_ok, zjn_ok, zbl_0, zbl_1, zu_eq, zu_a, zu_j, if_pos, if_neg, ge_iff_le, gt_iff_lt, ne_eq, Int.cast_ofNat_Int, Int.add_zero, Int.zero_add, Int.reduceAdd, Int.reduceSub, Int.reduceMul, Int.reduceNeg, gf_6, pf_6, vc_6]; omega⟩
theorem zHR_n {A K c n : Int} {u : zMem} (h : zHR A K c u) : zHR A K (c + 1) (znR n u) := by
  obtain ⟨h1, h2, h3, h5, h6⟩ := h
  unfold znR
  by_cases hr : u 129 30 < 24
  · rw [if_pos hr]
    refine ⟨zG0_up (zG0_up h1 (show zrfs 147 _ = false from rfl)) rfl, by simp (disch := omega) only [if_true, if_false, not_true_eq_false, not_false_eq_true, zcall_ok, zjn_ok, zbl_0, zbl_1, zu_eq, zu_a, zu_j, if_pos, if_neg, ge_iff_le, gt_iff_lt, ne_eq, Int.cast_ofNat_Int, Int.add_zero, Int.zero_add, Int.reduceAdd, Int.reduceSub, Int.reduceMul, Int.reduceNeg, gf_6, pf_6, vc_6]; exact h2, by simp (disch := omega) only [if_true, if_false, not_true_eq_false, not_false_eq_true, zcall_ok, zjn_ok, zbl_0, zbl_1, zu_eq, zu_a, zu_j, if_pos, if_neg, ge_iff_le, gt_iff_lt, ne_eq, Int.cast_ofNat_Int, Int.add_zero, Int.zero_add, Int.reduceAdd, Int.reduceSub, Int.reduceMul, Int.reduceNeg, gf_6, pf_6, vc_6]; exact h3, by simp (disch := omega) only [if_true, if_false, not_true_eq_false, not_false_eq_true, zcall_ok, zjn_ok, zbl_0, zbl_1, zu_eq, zu_a, zu_j, if_pos, if_neg, ge_iff_le, gt_iff_lt, ne_eq, Int.cast_ofNat_Int, Int.add_zero, Int.zero_add, Int.reduceAdd, Int.reduceSub, Int.reduceMul, Int.reduceNeg, gf_6, pf_6, vc_6]; omega, by simp (disch := omega) only [if_true, if_false, not_true_eq_false, not_false_eq_true, zcall_ok, zjn_ok, zbl_0, zbl_1, zu_eq, zu_a, zu_j, if_pos, if_neg, ge_iff_le, gt_iff_lt, ne_eq, Int.cast_ofNat_Int, Int.add_zero, Int.zero_add, Int.reduceAdd, Int.reduceSub, Int.reduceMul, Int.reduceNeg, gf_6, pf_6, vc_6]; omega⟩
  · rw [if_neg hr]
    refine ⟨zG0_up h1 rfl, by simp (disch := omega) only [if_true, if_false, not_true_eq_false, not_false_eq_true, zcall_ok, zjn_ok, zbl_0, zbl_1, zu_eq, zu_a, zu_j, if_pos, if_neg, ge_iff_le, gt_iff_lt, ne_eq, Int.cast_ofNat_Int, Int.add_zero, Int.zero_add, Int.reduceAdd, Int.reduceSub, Int.reduceMul, Int.reduceNeg, gf_6, pf_6, vc_6]; exact h2, by simp (disch := omega) only [if_true, if_false, not_true_eq_false, not_false_eq_true, zcall_ok, zjn_ok, zbl_0, zbl_1, zu_eq, zu_a, zu_j, if_pos, if_neg, ge_iff_le, gt_iff_lt, ne_eq, Int.cast_ofNat_Int, Int.add_zero, Int.zero_add, Int.reduceAdd, Int.reduceSub, Int.reduceMul, Int.reduceNeg, gf_6, pf_6, vc_6]; exact h3, by simp (disch := omega) only [if_true, if_false, not_true_eq_false, not_false_eq_true, zcall_ok, zjn_ok, zbl_0, zbl_1, zu_eq, zu_a, zu_j, if_pos, if_neg, ge_iff_le, gt_iff_lt, ne_eq, Int.cast_ofNat_Int, Int.add_zero, Int.zero_add, Int.reduceAdd, Int.reduceSub, Int.reduceMul, Int.reduceNeg, gf_6, pf_6, vc_6]; omega, by simp (disch := omega) only [if_true, if_false, not_true_eq_false, not_false_eq_true, zcall_ok, zjn_ok, zbl_0, zbl_1, zu_eq, zu_a, zu_j, if_pos, if_neg, ge_iff_le, gt_iff_lt, ne_eq, Int.cast_ofNat_Int, Int.add_zero, Int.zero_add, Int.reduceAdd, Int.reduceSub, Int.reduceMul, Int.reduceNeg, gf_6, pf_6, vc_6]; omega⟩
theorem zHC_f {A K : Int} : ∀ (T : List Int) (c : Int) (u : zMem), zHC A K c u → zHC A K (c + T.length) (zfC T u)
  | [], c, u, h => by rw [show c + (([] : List Int).length : Int) = c by simp]; exact h
  | n :: t, c, u, h => by
    have := zHC_f t (c + 1) _ (zHC_n (n := n) h)
    rw [show c + ((n :: t).length : Int) = c + 1 + (t.length : Int) by rw [List.length_cons]; omega]
    exact this
theorem zHR_f {A K : Int} : ∀ (T : List Int) (c : Int) (u : zMem), zHR A K c u → zHR A K (c + T.length) (zfR T u)
  | [], c, u, h => by rw [show c + (([] : List Int).length : Int) = c by simp]; exact h
  | n :: t, c, u, h => by
    have := zHR_f t (c + 1) _ (zHR_n (n := n) h)
    rw [show c + ((n :: t).length : Int) = c + 1 + (t.length : Int) by rw [List.length_cons]; omega]
    exact this
theorem zHC_le {A K c c' : Int} {u : zMem} (h : zHC A K c u) (hc : c ≤ c') : zHC A K c' u := ⟨h.1, h.2.1, h.2.2.1, h.2.2.2.1, h.2.2.2.2.1, by have := h.2.2.2.2.2; omega⟩
theorem zHR_le {A K c c' : Int} {u : zMem} (h : zHR A K c u) (hc : c ≤ c') : zHR A K c' u := ⟨h.1, h.2.1, h.2.2.1, h.2.2.2.1, by have := h.2.2.2.2; omega⟩
theorem s0_note {A K c n : Int} {u : zMem} (h : zHC A K c u) (hc : c ≤ 10000) : fX0_note 113 n u = some (0, znC n u) := by
  obtain ⟨h1, h2, h3, h4, h5, h6⟩ := h
  unfold fX0_note znC
  by_cases hr : u 113 3 < 24
  · rw [if_pos hr]
    simp (disch := omega) only [zw32_id, ↓zcall_ok, zcall_ok, ↓zjn_ok, zjn_ok, ↓zbl_0, zbl_0, ↓zbl_1, zbl_1, ↓if_pos, if_pos, ↓if_neg, if_neg, ↓zb_ite, zb_ite, ↓zb_itn, zb_itn, ↓gf_113, gf_113, ↓pf_113, pf_113, ↓vc_113, vc_113, ↓al_115, al_115, ↓as_115, as_115, ↓ln_115, ln_115, if_true, if_false, not_true_eq_false, not_false_eq_true, zu_eq, zu_a, zu_j, ge_iff_le, gt_iff_lt, ne_eq, Int.cast_ofNat_Int, Int.add_zero, Int.zero_add, Int.reduceAdd, Int.reduceSub, Int.reduceMul, Int.reduceNeg, ↓gq_113_0 h1, ↓gq_113_1 h1, g_113_0 h1, g_113_1 h1]
  · rw [if_neg hr]
    simp (disch := omega) only [zw32_id, ↓zcall_ok, zcall_ok, ↓zjn_ok, zjn_ok, ↓zbl_0, zbl_0, ↓zbl_1, zbl_1, ↓if_pos, if_pos, ↓if_neg, if_neg, ↓zb_ite, zb_ite, ↓zb_itn, zb_itn, ↓gf_113, gf_113, ↓pf_113, pf_113, ↓vc_113, vc_113, ↓al_115, al_115, ↓as_115, as_115, ↓ln_115, ln_115, if_true, if_false, not_true_eq_false, not_false_eq_true, zu_eq, zu_a, zu_j, ge_iff_le, gt_iff_lt, ne_eq, Int.cast_ofNat_Int, Int.add_zero, Int.zero_add, Int.reduceAdd, Int.reduceSub, Int.reduceMul, Int.reduceNeg, ↓gq_113_0 h1, ↓gq_113_1 h1, g_113_0 h1, g_113_1 h1]
theorem s11_begins {A K c n : Int} {u : zMem} (h : zHR A K c u) (hc : c ≤ 10000) : fX11_begins 129 n u = some (0, znR n u) := by
  obtain ⟨h1, h2, h3, h5, h6⟩ := h
  unfold fX11_begins znR
  by_cases hr : u 129 30 < 24
  · rw [if_pos hr]
    simp (disch := omega) only [zw32_id, ↓zcall_ok, zcall_ok, ↓zjn_ok, zjn_ok, ↓zbl_0, zbl_0, ↓zbl_1, zbl_1, ↓if_pos, if_pos, ↓if_neg, if_neg, ↓zb_ite, zb_ite, ↓zb_itn, zb_itn, ↓gf_129, gf_129, ↓pf_129, pf_129, ↓vc_129, vc_129, ↓al_147, al_147, ↓as_147, as_147, ↓ln_147, ln_147, if_true, if_false, not_true_eq_false, not_false_eq_true, zu_eq, zu_a, zu_j, ge_iff_le, gt_iff_lt, ne_eq, Int.cast_ofNat_Int, Int.add_zero, Int.zero_add, Int.reduceAdd, Int.reduceSub, Int.reduceMul, Int.reduceNeg, ↓gq_129_0 h1, ↓gq_129_1 h1, ↓gq_129_2 h1, ↓gq_129_3 h1, ↓gq_129_7 h1, ↓gq_129_10 h1, ↓gq_129_11 h1, ↓gq_129_12 h1, ↓gq_129_13 h1, ↓gq_129_19 h1, ↓gq_129_21 h1, ↓gq_129_22 h1, ↓gq_129_23 h1, ↓gq_129_24 h1, ↓gq_129_25 h1, ↓gq_129_26 h1, ↓gq_129_28 h1, ↓gq_129_29 h1, ↓gq_129_33 h1, ↓gq_129_34 h1, ↓gq_129_35 h1, ↓gq_129_36 h1, g_129_0 h1, g_129_1 h1, g_129_2 h1, g_129_3 h1, g_129_7 h1, g_129_10 h1, g_129_11 h1, g_129_12 h1, g_129_13 h1, g_129_19 h1, g_129_21 h1, g_129_22 h1, g_129_23 h1, g_129_24 h1, g_129_25 h1, g_129_26 h1, g_129_28 h1, g_129_29 h1, g_129_33 h1, g_129_34 h1, g_129_35 h1, g_129_36 h1]
  · rw [if_neg hr]
    simp (disch := omega) only [zw32_id, ↓zcall_ok, zcall_ok, ↓zjn_ok, zjn_ok, ↓zbl_0, zbl_0, ↓zbl_1, zbl_1, ↓if_pos, if_pos, ↓if_neg, if_neg, ↓zb_ite, zb_ite, ↓zb_itn, zb_itn, ↓gf_129, gf_129, ↓pf_129, pf_129, ↓vc_129, vc_129, ↓al_147, al_147, ↓as_147, as_147, ↓ln_147, ln_147, if_true, if_false, not_true_eq_false, not_false_eq_true, zu_eq, zu_a, zu_j, ge_iff_le, gt_iff_lt, ne_eq, Int.cast_ofNat_Int, Int.add_zero, Int.zero_add, Int.reduceAdd, Int.reduceSub, Int.reduceMul, Int.reduceNeg, ↓gq_129_0 h1, ↓gq_129_1 h1, ↓gq_129_2 h1, ↓gq_129_3 h1, ↓gq_129_7 h1, ↓gq_129_10 h1, ↓gq_129_11 h1, ↓gq_129_12 h1, ↓gq_129_13 h1, ↓gq_129_19 h1, ↓gq_129_21 h1, ↓gq_129_22 h1, ↓gq_129_23 h1, ↓gq_129_24 h1, ↓gq_129_25 h1, ↓gq_129_26 h1, ↓gq_129_28 h1, ↓gq_129_29 h1, ↓gq_129_33 h1, ↓gq_129_34 h1, ↓gq_129_35 h1, ↓gq_129_36 h1, g_129_0 h1, g_129_1 h1, g_129_2 h1, g_129_3 h1, g_129_7 h1, g_129_10 h1, g_129_11 h1, g_129_12 h1, g_129_13 h1, g_129_19 h1, g_129_21 h1, g_129_22 h1, g_129_23 h1, g_129_24 h1, g_129_25 h1, g_129_26 h1, g_129_28 h1, g_129_29 h1, g_129_33 h1, g_129_34 h1, g_129_35 h1, g_129_36 h1]
/-- what the two sides keep of the acts' trace -/
def zTR (u v : zMem) : Prop := u 113 3 = v 129 30 ∧ 0 ≤ u 113 3 ∧ ∀ k : Int, 0 ≤ k → k < u 113 3 → k < 24 → v 147 k = u 115 k
theorem zTR_n {u v : zMem} {n : Int} (h : zTR u v) : zTR (znC n u) (znR n v) := by
  obtain ⟨h1, h2, h3⟩ := h
  unfold znC znR
  rw [← h1]
  by_cases hr : u 113 3 < 24
  · rw [if_pos hr, if_pos hr]
    refine ⟨by simp (disch := omega) only [if_true, if_false, not_true_eq_false, not_false_eq_true, zcall_ok, zjn_ok, zbl_0, zbl_1, zu_eq, zu_a, zu_j, if_pos, if_neg, ge_iff_le, gt_iff_lt, ne_eq, Int.cast_ofNat_Int, Int.add_zero, Int.zero_add, Int.reduceAdd, Int.reduceSub, Int.reduceMul, Int.reduceNeg, gf_6, pf_6, vc_6], by simp (disch := omega) only [if_true, if_false, not_true_eq_false, not_false_eq_true, zcall_ok, zjn_ok, zbl_0, zbl_1, zu_eq, zu_a, zu_j, if_pos, if_neg, ge_iff_le, gt_iff_lt, ne_eq, Int.cast_ofNat_Int, Int.add_zero, Int.zero_add, Int.reduceAdd, Int.reduceSub, Int.reduceMul, Int.reduceNeg, gf_6, pf_6, vc_6]; omega, fun k k0 k1 k2 => ?_⟩
    have k1 : k < u 113 3 + 1 := by revert k1; simp (disch := omega) only [if_true, if_false, not_true_eq_false, not_false_eq_true, zcall_ok, zjn_ok, zbl_0, zbl_1, zu_eq, zu_a, zu_j, if_pos, if_neg, ge_iff_le, gt_iff_lt, ne_eq, Int.cast_ofNat_Int, Int.add_zero, Int.zero_add, Int.reduceAdd, Int.reduceSub, Int.reduceMul, Int.reduceNeg, gf_6, pf_6, vc_6]; exact id
    by_cases hk : k = u 113 3
    · subst hk
      simp (disch := omega) only [if_true, if_false, not_true_eq_false, not_false_eq_true, zcall_ok, zjn_ok, zbl_0, zbl_1, zu_eq, zu_a, zu_j, if_pos, if_neg, ge_iff_le, gt_iff_lt, ne_eq, Int.cast_ofNat_Int, Int.add_zero, Int.zero_add, Int.reduceAdd, Int.reduceSub, Int.reduceMul, Int.reduceNeg, gf_6, pf_6, vc_6]
    · simp (disch := omega) only [if_true, if_false, not_true_eq_false, not_false_eq_true, zcall_ok, zjn_ok, zbl_0, zbl_1, zu_eq, zu_a, zu_j, if_pos, if_neg, ge_iff_le, gt_iff_lt, ne_eq, Int.cast_ofNat_Int, Int.add_zero, Int.zero_add, Int.reduceAdd, Int.reduceSub, Int.reduceMul, Int.reduceNeg, gf_6, pf_6, vc_6]
      exact h3 k k0 (by omega) k2
  · rw [if_neg hr, if_neg hr]
    refine ⟨by simp (disch := omega) only [if_true, if_false, not_true_eq_false, not_false_eq_true, zcall_ok, zjn_ok, zbl_0, zbl_1, zu_eq, zu_a, zu_j, if_pos, if_neg, ge_iff_le, gt_iff_lt, ne_eq, Int.cast_ofNat_Int, Int.add_zero, Int.zero_add, Int.reduceAdd, Int.reduceSub, Int.reduceMul, Int.reduceNeg, gf_6, pf_6, vc_6], by simp (disch := omega) only [if_true, if_false, not_true_eq_false, not_false_eq_true, zcall_ok, zjn_ok, zbl_0, zbl_1, zu_eq, zu_a, zu_j, if_pos, if_neg, ge_iff_le, gt_iff_lt, ne_eq, Int.cast_ofNat_Int, Int.add_zero, Int.zero_add, Int.reduceAdd, Int.reduceSub, Int.reduceMul, Int.reduceNeg, gf_6, pf_6, vc_6]; omega, fun k k0 k1 k2 => ?_⟩
    have k1 : k < u 113 3 + 1 := by revert k1; simp (disch := omega) only [if_true, if_false, not_true_eq_false, not_false_eq_true, zcall_ok, zjn_ok, zbl_0, zbl_1, zu_eq, zu_a, zu_j, if_pos, if_neg, ge_iff_le, gt_iff_lt, ne_eq, Int.cast_ofNat_Int, Int.add_zero, Int.zero_add, Int.reduceAdd, Int.reduceSub, Int.reduceMul, Int.reduceNeg, gf_6, pf_6, vc_6]; exact id
    simp (disch := omega) only [if_true, if_false, not_true_eq_false, not_false_eq_true, zcall_ok, zjn_ok, zbl_0, zbl_1, zu_eq, zu_a, zu_j, if_pos, if_neg, ge_iff_le, gt_iff_lt, ne_eq, Int.cast_ofNat_Int, Int.add_zero, Int.zero_add, Int.reduceAdd, Int.reduceSub, Int.reduceMul, Int.reduceNeg, gf_6, pf_6, vc_6]
    exact h3 k k0 (by omega) k2
theorem zTR_f : ∀ (T : List Int) (u v : zMem), zTR u v → zTR (zfC T u) (zfR T v)
  | [], _, _, h => h
  | _ :: t, _, _, h => zTR_f t _ _ (zTR_n h)
def saV (k x A : Int) : Int := if k = 6 then zw32 (zw32 (x + A) * 2) else if k = 0 ∨ k = 4 then zw32 (x + A) else zw32 (zw32 (x + A) + 3)
def saT (k : Int) : List Int := if k = 6 then [70, 1] else if k = 0 ∨ k = 4 then [1] else [20, 1]
def meV (K k x A : Int) : Int := if k = 5 then zw32 (zw32 (zxor x A * 3) - saV K 2 A) else if k = 3 then zw32 (zxor x A * 3) else zxor x A
def meT (K k : Int) : List Int := if k = 5 then [60, 40, 11] ++ saT K else if k = 3 then [40, 11] else [11]
def tbV (K x A : Int) : Int := zw32 (saV K x A * 2)
def taV (K k x A : Int) : Int := if k = 7 then zw32 (zw32 (-tbV K x A) + meV K K 2 A) else if k = 2 then zw32 (-tbV K x A) else if k = 3 ∨ k = 5 then tbV K (zw32 (x + 1)) A else tbV K x A
def taT (K k : Int) : List Int := if k = 7 then [80, 30, 10] ++ saT K ++ meT K K else if k = 2 then [30, 10] ++ saT K else if k = 3 ∨ k = 5 then [41, 10] ++ saT K else [10] ++ saT K
def jbV (K x A : Int) : Int := zw32 (taV K K x A - meV K K 1 A)
def joV (K k x A : Int) : Int := if k = 4 then zxor (jbV K x A) 5 else if k = 5 then zw32 (jbV K x A + 1) else if k = 7 then zw32 (jbV K x A - 1) else jbV K x A
def joT (K k : Int) : List Int := (if k = 4 then [50] else if k = 5 then [61] else if k = 7 then [81] else []) ++ ([2] ++ taT K K ++ meT K K)
theorem saT_len (k : Int) : (saT k).length ≤ 2 := by unfold saT; split <;> (try split) <;> simp
theorem meT_len (K k : Int) : (meT K k).length ≤ 5 := by
  have := saT_len K
  unfold meT
  split <;> (try split) <;> simp <;> omega
theorem taT_len (K k : Int) : (taT K k).length ≤ 10 := by
  have := saT_len K
  have := meT_len K K
  unfold taT
  split <;> (try split) <;> (try split) <;> simp <;> omega
/-! the reference's side -/
theorem r_says {A K : Int} : ∀ (n : Nat), 2 ≤ n → ∀ (k x c : Int) (u : zMem), 0 ≤ k → k < 8 → zHR A K c u → c ≤ 900 → gX11_saysAs n 129 k x u = some (saV k x A, zfR (saT k) u) := by
  have base : ∀ (n : Nat) (k x c : Int) (u : zMem), k = 0 ∨ k = 4 → zHR A K c u → c ≤ 1000 → gX11_saysAs (n + 1) 129 k x u = some (zw32 (x + A), znR 1 u) := by
    intro n k x c u hk h hc
    have hn := zHR_n (n := 1) h
    have hA := hn.2.1
    rw [show gX11_saysAs (n + 1) = gX11_saysAs_b0 (gX11_saysAs n) from rfl]
    unfold gX11_saysAs_b0
    rcases hk with rfl | rfl <;> simp (disch := omega) only [↓(vq_129 (s11_begins h (n := 1) (by omega))), hA, ↓zcall_ok, zcall_ok, ↓zjn_ok, zjn_ok, ↓zbl_0, zbl_0, ↓zbl_1, zbl_1, ↓if_pos, if_pos, ↓if_neg, if_neg, ↓zb_ite, zb_ite, ↓zb_itn, zb_itn, ↓gf_129, gf_129, ↓pf_129, pf_129, ↓vc_129, vc_129, if_true, if_false, not_true_eq_false, not_false_eq_true, zu_eq, zu_a, zu_j, ge_iff_le, gt_iff_lt, ne_eq, Int.cast_ofNat_Int, Int.add_zero, Int.zero_add, Int.reduceAdd, Int.reduceSub, Int.reduceMul, Int.reduceNeg]
  intro n hn k x c u k0 k1 h hc
  obtain ⟨m, rfl⟩ : ∃ m, n = m + 1 + 1 := ⟨n - 2, by omega⟩
  unfold saV saT
  by_cases h6 : k = 6
  · rw [if_pos h6, if_pos h6]
    have e := base m 0 x (c + 1) (znR 70 u) (Or.inl rfl) (zHR_n h) (by omega)
    rw [show gX11_saysAs (m + 1 + 1) = gX11_saysAs_b0 (gX11_saysAs (m + 1)) from rfl]
    unfold gX11_saysAs_b0
    simp (disch := omega) only [↓(vq_129 (s11_begins h (n := 70) (by omega))), ↓(vq_129 e), ↓zcall_ok, zcall_ok, ↓zjn_ok, zjn_ok, ↓zbl_0, zbl_0, ↓zbl_1, zbl_1, ↓if_pos, if_pos, ↓if_neg, if_neg, ↓zb_ite, zb_ite, ↓zb_itn, zb_itn, ↓gf_129, gf_129, ↓pf_129, pf_129, ↓vc_129, vc_129, if_true, if_false, not_true_eq_false, not_false_eq_true, zu_eq, zu_a, zu_j, ge_iff_le, gt_iff_lt, ne_eq, Int.cast_ofNat_Int, Int.add_zero, Int.zero_add, Int.reduceAdd, Int.reduceSub, Int.reduceMul, Int.reduceNeg]
    rfl
  · rw [if_neg h6, if_neg h6]
    by_cases h0 : k = 0 ∨ k = 4
    · rw [if_pos h0, if_pos h0, base (m + 1) k x c u h0 h (by omega)]
      rfl
    · rw [if_neg h0, if_neg h0]
      have e := base m 0 x (c + 1) (znR 20 u) (Or.inl rfl) (zHR_n h) (by omega)
      rw [show gX11_saysAs (m + 1 + 1) = gX11_saysAs_b0 (gX11_saysAs (m + 1)) from rfl]
      unfold gX11_saysAs_b0
      simp (disch := omega) only [↓(vq_129 (s11_begins h (n := 20) (by omega))), ↓(vq_129 e), ↓zcall_ok, zcall_ok, ↓zjn_ok, zjn_ok, ↓zbl_0, zbl_0, ↓zbl_1, zbl_1, ↓if_pos, if_pos, ↓if_neg, if_neg, ↓zb_ite, zb_ite, ↓zb_itn, zb_itn, ↓gf_129, gf_129, ↓pf_129, pf_129, ↓vc_129, vc_129, if_true, if_false, not_true_eq_false, not_false_eq_true, zu_eq, zu_a, zu_j, ge_iff_le, gt_iff_lt, ne_eq, Int.cast_ofNat_Int, Int.add_zero, Int.zero_add, Int.reduceAdd, Int.reduceSub, Int.reduceMul, Int.reduceNeg]
      rfl
