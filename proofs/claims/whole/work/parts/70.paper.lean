/-! ===== papers ===== -/
/-- a paper p on both sides, for N sayings and W writers -/
def zPp (μ : zMem) (N W p : Int) : Prop := (0 ≤ μ (zbP p) 1 ∧ μ (zbP p) 1 ≤ 16 ∧ μ 141 p = μ (zbP p) 1) ∧ (μ 140 p = μ (zbP p) 2 ∧ -1 ≤ μ (zbP p) 2 ∧ μ (zbP p) 2 < W) ∧
  (∀ k : Int, 0 ≤ k → k < μ (zbP p) 1 → μ 142 (16 * p + k) = μ (zbP p + 2) k ∧ μ 143 (16 * p + k) = μ (zbP p + 2 + 1) k ∧ μ 144 (16 * p + k) = μ (zbP p + 2 + 2) k ∧ μ 145 (16 * p + k) = μ (zbP p + 2 + 3) k ∧
    (0 ≤ μ (zbP p + 2) k ∧ μ (zbP p + 2) k < N) ∧ (0 ≤ μ (zbP p + 2 + 1) k ∧ μ (zbP p + 2 + 1) k ≤ 3) ∧ (0 ≤ μ (zbP p + 2 + 2) k ∧ μ (zbP p + 2 + 2) k ≤ 999) ∧ (0 ≤ μ (zbP p + 2 + 3) k ∧ μ (zbP p + 2 + 3) k ≤ 1)) ∧
  ∀ k l : Int, 0 ≤ k → k < l → l < μ (zbP p) 1 → μ (zbP p + 2) k ≠ μ (zbP p + 2) l
def zGP (μ : zMem) : Prop := (0 ≤ μ 34 3 ∧ μ 34 3 ≤ 10 ∧ μ 129 20 = μ 34 3) ∧ ∀ p : Int, 0 ≤ p → p < μ 34 3 → zPp μ (μ 6 1) (μ 21 3) p
theorem tgP1 {p : Int} (h0 : 0 ≤ p) (h1 : p < 10) {j : Nat} : ztag (zbP p) j = 600 + j := by
  rcases znat10 h0 h1 with rfl | rfl | rfl | rfl | rfl | rfl | rfl | rfl | rfl | rfl <;> rfl
theorem tgP2 {p w : Int} (h0 : 0 ≤ p) (h1 : p < 10) (h2 : 0 ≤ w) (h3 : w < 4) {j : Int} : ztag (zbP p + 2 + w) j = 600 := by
  rcases znat10 h0 h1 with rfl | rfl | rfl | rfl | rfl | rfl | rfl | rfl | rfl | rfl <;> rcases znat4 h2 h3 with rfl | rfl | rfl | rfl <;> rfl
theorem zPp_keep {μ μ' : zMem} {N N' W W' p : Int} (h0 : 0 ≤ p) (h1 : p < 10) (h : zPp μ N W p) (k : ∀ a j : Int, ztag a j ∈ [103, 600, 601, 602, 1120, 1121, 1122, 1123, 1124, 1125, 1126] → μ' a j = μ a j) (hN : N ≤ N') (hW : W ≤ W') : zPp μ' N' W' p := by
  have e1 : μ' (zbP p) 1 = μ (zbP p) 1 := k _ _ (by rw [show (1 : Int) = (1 : Nat) from rfl, tgP1 h0 h1]; decide)
  have e2 : μ' (zbP p) 2 = μ (zbP p) 2 := k _ _ (by rw [show (2 : Int) = (2 : Nat) from rfl, tgP1 h0 h1]; decide)
  have er : ∀ w j : Int, 0 ≤ w → w < 4 → μ' (zbP p + 2 + w) j = μ (zbP p + 2 + w) j := fun w j w0 w1 => k _ _ (by rw [tgP2 h0 h1 w0 w1]; decide)
  have er0 : ∀ j : Int, μ' (zbP p + 2) j = μ (zbP p + 2) j := fun j => by have := er 0 j (by omega) (by omega); rw [Int.add_zero] at this; exact this
  unfold zPp at h ⊢
  rw [e1, e2, k 141 p (by rw [tg_141]; decide), k 140 p (by rw [tg_140]; decide)]
  obtain ⟨a, b, c, d⟩ := h
  refine ⟨a, ⟨b.1, b.2.1, by omega⟩, fun i i0 i1 => ?_, fun i l i0 i1 i2 => ?_⟩
  · rw [er0 i, er 1 i (by omega) (by omega), er 2 i (by omega) (by omega), er 3 i (by omega) (by omega), k 142 _ (by rw [tg_142]; decide), k 143 _ (by rw [tg_143]; decide), k 144 _ (by rw [tg_144]; decide), k 145 _ (by rw [tg_145]; decide)]
    obtain ⟨c1, c2, c3, c4, c5, c6⟩ := c i i0 i1
    exact ⟨c1, c2, c3, c4, ⟨c5.1, by omega⟩, c6⟩
  · rw [er0 i, er0 l]
    exact d i l i0 i1 i2
theorem zGP_keep {μ μ' : zMem} (h : zGP μ) (k : ∀ a j : Int, ztag a j ∈ [103, 600, 601, 602, 1120, 1121, 1122, 1123, 1124, 1125, 1126] → μ' a j = μ a j) (hN : μ 6 1 ≤ μ' 6 1) (hW : μ 21 3 ≤ μ' 21 3) : zGP μ' := by
  obtain ⟨⟨h0, h1, h2⟩, h3⟩ := h
  have e : μ' 34 3 = μ 34 3 := k 34 3 (by rw [tf_34_3]; decide)
  refine ⟨⟨by omega, by omega, by rw [e, k 129 20 (by rw [tf_129_20]; decide)]; exact h2⟩, fun p p0 p1 => zPp_keep p0 (by omega) (h3 p p0 (by omega)) k hN hW⟩
theorem alP0 {p j : Int} (h0 : 0 ≤ p) (h1 : p < 10) (h4 : 0 ≤ j) (h5 : j < 16) {μ : zMem} {K : Int → zRs} : zald 20 (zbP p + 2) j μ K = K (μ (zbP p + 2) j) := by
  have := alPr (w := 0) h0 h1 (by omega) (by omega) h4 h5 (μ := μ) (K := K)
  rw [Int.add_zero] at this
  exact this
theorem asP0 {p j v : Int} (h0 : 0 ≤ p) (h1 : p < 10) (h4 : 0 ≤ j) (h5 : j < 16) {μ : zMem} {K : zMem → zRs} : zast 20 (zbP p + 2) j v μ K = K (zupd μ (zbP p + 2) j v) := by
  have := asPr (w := 0) h0 h1 (by omega) (by omega) h4 h5 (μ := μ) (v := v) (K := K)
  rw [Int.add_zero] at this
  exact this
theorem s1_paper {μ : zMem} (hG : zG0 μ) (h1 : μ 34 3 ≤ 10) (p : Int) : fX1_paper 34 p μ = some (if 0 ≤ p ∧ p < μ 34 3 then zbP p else -1, μ) := by
  unfold fX1_paper
  by_cases h0 : p < 0
  · simp (disch := omega) only [↓zcall_ok, zcall_ok, ↓zjn_ok, zjn_ok, ↓zbl_0, zbl_0, ↓zbl_1, zbl_1, ↓if_pos, if_pos, ↓if_neg, if_neg, ↓zb_ite, zb_ite, ↓zb_itn, zb_itn, ↓gf_34, gf_34, ↓pf_34, pf_34, ↓vc_34, vc_34, if_true, if_false, not_true_eq_false, not_false_eq_true, zu_eq, zu_a, zu_j, ge_iff_le, gt_iff_lt, ne_eq, Int.cast_ofNat_Int, Int.add_zero, Int.zero_add, Int.reduceAdd, Int.reduceSub, Int.reduceMul, Int.reduceNeg, ↓gq_34_0 hG, ↓gq_34_1 hG, ↓gq_34_2 hG, g_34_0 hG, g_34_1 hG, g_34_2 hG]
  · by_cases h2 : p < μ 34 3
    · simp (disch := omega) only [↓aq_35 hG, ↓zcall_ok, zcall_ok, ↓zjn_ok, zjn_ok, ↓zbl_0, zbl_0, ↓zbl_1, zbl_1, ↓if_pos, if_pos, ↓if_neg, if_neg, ↓zb_ite, zb_ite, ↓zb_itn, zb_itn, ↓gf_34, gf_34, ↓pf_34, pf_34, ↓vc_34, vc_34, if_true, if_false, not_true_eq_false, not_false_eq_true, zu_eq, zu_a, zu_j, ge_iff_le, gt_iff_lt, ne_eq, Int.cast_ofNat_Int, Int.add_zero, Int.zero_add, Int.reduceAdd, Int.reduceSub, Int.reduceMul, Int.reduceNeg, ↓gq_34_0 hG, ↓gq_34_1 hG, ↓gq_34_2 hG, g_34_0 hG, g_34_1 hG, g_34_2 hG]
    · simp (disch := omega) only [↓zcall_ok, zcall_ok, ↓zjn_ok, zjn_ok, ↓zbl_0, zbl_0, ↓zbl_1, zbl_1, ↓if_pos, if_pos, ↓if_neg, if_neg, ↓zb_ite, zb_ite, ↓zb_itn, zb_itn, ↓gf_34, gf_34, ↓pf_34, pf_34, ↓vc_34, vc_34, if_true, if_false, not_true_eq_false, not_false_eq_true, zu_eq, zu_a, zu_j, ge_iff_le, gt_iff_lt, ne_eq, Int.cast_ofNat_Int, Int.add_zero, Int.zero_add, Int.reduceAdd, Int.reduceSub, Int.reduceMul, Int.reduceNeg, ↓gq_34_0 hG, ↓gq_34_1 hG, ↓gq_34_2 hG, g_34_0 hG, g_34_1 hG, g_34_2 hG]
theorem s11_isPaper {μ : zMem} (hP : zGP μ) (p : Int) : fX11_isPaper 129 p μ = some (zb (0 ≤ p ∧ p < μ 34 3), μ) := by
  obtain ⟨⟨h0, h1, h2⟩, -⟩ := hP
  unfold fX11_isPaper
  simp (disch := omega) only [gf_129, Int.cast_ofNat_Int, s11_within, zcall_ok, h2, zw32_id, zbl_ok zb01]
  congr 2
  by_cases h : 0 ≤ p ∧ p < μ 34 3
  · rw [zb_t h, zb_t (by omega)]
  · rw [zb_f h, zb_f (by omega)]
/-- the first place below n, from i on, where f is x; -1 where there is none -/
def zpl (f : Int → Int) (x : Int) : Nat → Int → Int
  | 0, _ => -1
  | n + 1, i => if f i = x then i else zpl f x n (i + 1)
theorem zpl_in {f : Int → Int} {x : Int} : ∀ (n : Nat) (i : Int), zpl f x n i = -1 ∨ (i ≤ zpl f x n i ∧ zpl f x n i < i + n ∧ f (zpl f x n i) = x)
  | 0, _ => Or.inl rfl
  | n + 1, i => by
    unfold zpl
    by_cases h : f i = x
    · rw [if_pos h]
      exact Or.inr ⟨by omega, by omega, h⟩
    · rw [if_neg h]
      rcases zpl_in (f := f) (x := x) n (i + 1) with q | q
      · exact Or.inl q
      · exact Or.inr ⟨by omega, by omega, q.2.2⟩
theorem s6_placeOf {μ : zMem} (hG : zG0 μ) {p : Int} (h0 : 0 ≤ p) (h1 : p < 10) (hs : 0 ≤ μ (zbP p) 1 ∧ μ (zbP p) 1 ≤ 16) (x : Int) : fX6_placeOf (zbP p) x μ = some (zpl (μ (zbP p + 2)) x (μ (zbP p) 1).toNat 0, μ) := by
  have hz : zbP p = 53 + 6 * p := rfl
  unfold fX6_placeOf
  refine zlp_meas (fun k (f : Int → zMem → zRs) => ∀ (v : Int), 0 ≤ v → v ≤ μ (zbP p) 1 → μ (zbP p) 1 - v < k → f v μ = some (zpl (μ (zbP p + 2)) x (μ (zbP p) 1 - v).toNat v, μ)) ?_ ?_ 1000000 0 (by omega) (by omega) (by omega) |>.trans (by rw [Int.sub_zero])
  · intro v a1 a2 a3
    omega
  · intro k f ih v a1 a2 a3
    by_cases hv : v = μ (zbP p) 1
    · simp (disch := omega) only [↓gfP, gfP, ↓zcall_ok, zcall_ok, ↓zjn_ok, zjn_ok, ↓zbl_0, zbl_0, ↓zbl_1, zbl_1, ↓if_pos, if_pos, ↓if_neg, if_neg, ↓zb_ite, zb_ite, ↓zb_itn, zb_itn, ↓gf_6, gf_6, ↓pf_6, pf_6, ↓vc_6, vc_6, if_true, if_false, not_true_eq_false, not_false_eq_true, zu_eq, zu_a, zu_j, ge_iff_le, gt_iff_lt, ne_eq, Int.cast_ofNat_Int, Int.add_zero, Int.zero_add, Int.reduceAdd, Int.reduceSub, Int.reduceMul, Int.reduceNeg]
      rw [hv, Int.sub_self]
      rfl
    · obtain ⟨n, hn⟩ : ∃ n : Nat, (μ (zbP p) 1 - v).toNat = n + 1 := ⟨(μ (zbP p) 1 - v).toNat - 1, by omega⟩
      rw [hn, zpl]
      by_cases hq : μ (zbP p + 2) v = x
      · rw [if_pos hq]
        simp (disch := omega) only [↓gqP hG, ↓gfP, gfP, ↓aqPe hG, alP0, hq, ↓zcall_ok, zcall_ok, ↓zjn_ok, zjn_ok, ↓zbl_0, zbl_0, ↓zbl_1, zbl_1, ↓if_pos, if_pos, ↓if_neg, if_neg, ↓zb_ite, zb_ite, ↓zb_itn, zb_itn, ↓gf_6, gf_6, ↓pf_6, pf_6, ↓vc_6, vc_6, if_true, if_false, not_true_eq_false, not_false_eq_true, zu_eq, zu_a, zu_j, ge_iff_le, gt_iff_lt, ne_eq, Int.cast_ofNat_Int, Int.add_zero, Int.zero_add, Int.reduceAdd, Int.reduceSub, Int.reduceMul, Int.reduceNeg]
      · have := ih (v + 1) (by omega) (by omega) (by omega)
        rw [show (μ (zbP p) 1 - (v + 1)).toNat = n by omega] at this
        rw [if_neg hq, ← this]
        simp (disch := omega) only [↓gqP hG, ↓gfP, gfP, ↓aqPe hG, alP0, zw32_id, ↓zcall_ok, zcall_ok, ↓zjn_ok, zjn_ok, ↓zbl_0, zbl_0, ↓zbl_1, zbl_1, ↓if_pos, if_pos, ↓if_neg, if_neg, ↓zb_ite, zb_ite, ↓zb_itn, zb_itn, ↓gf_6, gf_6, ↓pf_6, pf_6, ↓vc_6, vc_6, if_true, if_false, not_true_eq_false, not_false_eq_true, zu_eq, zu_a, zu_j, ge_iff_le, gt_iff_lt, ne_eq, Int.cast_ofNat_Int, Int.add_zero, Int.zero_add, Int.reduceAdd, Int.reduceSub, Int.reduceMul, Int.reduceNeg]
theorem s11_placeOf {μ : zMem} (hG : zG0 μ) {p N W : Int} (h0 : 0 ≤ p) (h1 : p < 10) (hP : zPp μ N W p) (x : Int) : fX11_placeOf 129 p x μ = some (zpl (μ (zbP p + 2)) x (μ (zbP p) 1).toNat 0, μ) := by
  have hz : zbP p = 53 + 6 * p := rfl
  obtain ⟨⟨hs0, hs1, hs2⟩, -, hE, -⟩ := hP
  unfold fX11_placeOf
  refine zlp_meas (fun k (f : Int → zMem → zRs) => ∀ (v : Int), 0 ≤ v → v ≤ μ (zbP p) 1 → μ (zbP p) 1 - v < k → f v μ = some (zpl (μ (zbP p + 2)) x (μ (zbP p) 1 - v).toNat v, μ)) ?_ ?_ 1000000 0 (by omega) (by omega) (by omega) |>.trans (by rw [Int.sub_zero])
  · intro v a1 a2 a3
    omega
  · intro k f ih v a1 a2 a3
    by_cases hv : v = μ (zbP p) 1
    · simp (disch := omega) only [hs2, ↓zcall_ok, zcall_ok, ↓zjn_ok, zjn_ok, ↓zbl_0, zbl_0, ↓zbl_1, zbl_1, ↓if_pos, if_pos, ↓if_neg, if_neg, ↓zb_ite, zb_ite, ↓zb_itn, zb_itn, ↓gf_129, gf_129, ↓pf_129, pf_129, ↓vc_129, vc_129, ↓al_141, al_141, ↓as_141, as_141, ↓ln_141, ln_141, if_true, if_false, not_true_eq_false, not_false_eq_true, zu_eq, zu_a, zu_j, ge_iff_le, gt_iff_lt, ne_eq, Int.cast_ofNat_Int, Int.add_zero, Int.zero_add, Int.reduceAdd, Int.reduceSub, Int.reduceMul, Int.reduceNeg, ↓gq_129_0 hG, ↓gq_129_1 hG, ↓gq_129_2 hG, ↓gq_129_3 hG, ↓gq_129_7 hG, ↓gq_129_10 hG, ↓gq_129_11 hG, ↓gq_129_12 hG, ↓gq_129_13 hG, ↓gq_129_19 hG, ↓gq_129_21 hG, ↓gq_129_22 hG, ↓gq_129_23 hG, ↓gq_129_24 hG, ↓gq_129_25 hG, ↓gq_129_26 hG, ↓gq_129_28 hG, ↓gq_129_29 hG, ↓gq_129_33 hG, ↓gq_129_34 hG, ↓gq_129_35 hG, ↓gq_129_36 hG, g_129_0 hG, g_129_1 hG, g_129_2 hG, g_129_3 hG, g_129_7 hG, g_129_10 hG, g_129_11 hG, g_129_12 hG, g_129_13 hG, g_129_19 hG, g_129_21 hG, g_129_22 hG, g_129_23 hG, g_129_24 hG, g_129_25 hG, g_129_26 hG, g_129_28 hG, g_129_29 hG, g_129_33 hG, g_129_34 hG, g_129_35 hG, g_129_36 hG]
      rw [hv, Int.sub_self]
      rfl
    · obtain ⟨n, hn⟩ : ∃ n : Nat, (μ (zbP p) 1 - v).toNat = n + 1 := ⟨(μ (zbP p) 1 - v).toNat - 1, by omega⟩
      have hE1 := (hE v a1 (by omega)).1
      rw [hn, zpl]
      by_cases hq : μ (zbP p + 2) v = x
      · rw [if_pos hq]
        simp (disch := omega) only [hs2, zw32_id, hE1, hq, ↓zcall_ok, zcall_ok, ↓zjn_ok, zjn_ok, ↓zbl_0, zbl_0, ↓zbl_1, zbl_1, ↓if_pos, if_pos, ↓if_neg, if_neg, ↓zb_ite, zb_ite, ↓zb_itn, zb_itn, ↓gf_129, gf_129, ↓pf_129, pf_129, ↓vc_129, vc_129, ↓al_141, al_141, ↓as_141, as_141, ↓ln_141, ln_141, ↓al_142, al_142, ↓as_142, as_142, ↓ln_142, ln_142, if_true, if_false, not_true_eq_false, not_false_eq_true, zu_eq, zu_a, zu_j, ge_iff_le, gt_iff_lt, ne_eq, Int.cast_ofNat_Int, Int.add_zero, Int.zero_add, Int.reduceAdd, Int.reduceSub, Int.reduceMul, Int.reduceNeg, ↓gq_129_0 hG, ↓gq_129_1 hG, ↓gq_129_2 hG, ↓gq_129_3 hG, ↓gq_129_7 hG, ↓gq_129_10 hG, ↓gq_129_11 hG, ↓gq_129_12 hG, ↓gq_129_13 hG, ↓gq_129_19 hG, ↓gq_129_21 hG, ↓gq_129_22 hG, ↓gq_129_23 hG, ↓gq_129_24 hG, ↓gq_129_25 hG, ↓gq_129_26 hG, ↓gq_129_28 hG, ↓gq_129_29 hG, ↓gq_129_33 hG, ↓gq_129_34 hG, ↓gq_129_35 hG, ↓gq_129_36 hG, g_129_0 hG, g_129_1 hG, g_129_2 hG, g_129_3 hG, g_129_7 hG, g_129_10 hG, g_129_11 hG, g_129_12 hG, g_129_13 hG, g_129_19 hG, g_129_21 hG, g_129_22 hG, g_129_23 hG, g_129_24 hG, g_129_25 hG, g_129_26 hG, g_129_28 hG, g_129_29 hG, g_129_33 hG, g_129_34 hG, g_129_35 hG, g_129_36 hG]
      · have := ih (v + 1) (by omega) (by omega) (by omega)
        rw [show (μ (zbP p) 1 - (v + 1)).toNat = n by omega] at this
        rw [if_neg hq, ← this]
        simp (disch := omega) only [hs2, zw32_id, hE1, ↓zcall_ok, zcall_ok, ↓zjn_ok, zjn_ok, ↓zbl_0, zbl_0, ↓zbl_1, zbl_1, ↓if_pos, if_pos, ↓if_neg, if_neg, ↓zb_ite, zb_ite, ↓zb_itn, zb_itn, ↓gf_129, gf_129, ↓pf_129, pf_129, ↓vc_129, vc_129, ↓al_141, al_141, ↓as_141, as_141, ↓ln_141, ln_141, ↓al_142, al_142, ↓as_142, as_142, ↓ln_142, ln_142, if_true, if_false, not_true_eq_false, not_false_eq_true, zu_eq, zu_a, zu_j, ge_iff_le, gt_iff_lt, ne_eq, Int.cast_ofNat_Int, Int.add_zero, Int.zero_add, Int.reduceAdd, Int.reduceSub, Int.reduceMul, Int.reduceNeg, ↓gq_129_0 hG, ↓gq_129_1 hG, ↓gq_129_2 hG, ↓gq_129_3 hG, ↓gq_129_7 hG, ↓gq_129_10 hG, ↓gq_129_11 hG, ↓gq_129_12 hG, ↓gq_129_13 hG, ↓gq_129_19 hG, ↓gq_129_21 hG, ↓gq_129_22 hG, ↓gq_129_23 hG, ↓gq_129_24 hG, ↓gq_129_25 hG, ↓gq_129_26 hG, ↓gq_129_28 hG, ↓gq_129_29 hG, ↓gq_129_33 hG, ↓gq_129_34 hG, ↓gq_129_35 hG, ↓gq_129_36 hG, g_129_0 hG, g_129_1 hG, g_129_2 hG, g_129_3 hG, g_129_7 hG, g_129_10 hG, g_129_11 hG, g_129_12 hG, g_129_13 hG, g_129_19 hG, g_129_21 hG, g_129_22 hG, g_129_23 hG, g_129_24 hG, g_129_25 hG, g_129_26 hG, g_129_28 hG, g_129_29 hG, g_129_33 hG, g_129_34 hG, g_129_35 hG, g_129_36 hG]
theorem zpl_ge {f : Int → Int} {x : Int} {n : Nat} {i : Int} (hi : 0 ≤ i) : zpl f x n i = -1 ∨ 0 ≤ zpl f x n i := by
  rcases zpl_in (f := f) (x := x) n i with h | h <;> omega
theorem s11_has {μ : zMem} (hG : zG0 μ) {p N W : Int} (h0 : 0 ≤ p) (h1 : p < 10) (hP : zPp μ N W p) (x : Int) : fX11_has 129 p x μ = some (zb (0 ≤ zpl (μ (zbP p + 2)) x (μ (zbP p) 1).toNat 0), μ) := by
  unfold fX11_has
  have e := s11_placeOf hG h0 h1 hP x
  by_cases h : 0 ≤ zpl (μ (zbP p + 2)) x (μ (zbP p) 1).toNat 0
  · simp (disch := omega) only [↓(vq_129 e), zb_t, ↓zcall_ok, zcall_ok, ↓zjn_ok, zjn_ok, ↓zbl_0, zbl_0, ↓zbl_1, zbl_1, ↓if_pos, if_pos, ↓if_neg, if_neg, ↓zb_ite, zb_ite, ↓zb_itn, zb_itn, ↓gf_129, gf_129, ↓pf_129, pf_129, ↓vc_129, vc_129, if_true, if_false, not_true_eq_false, not_false_eq_true, zu_eq, zu_a, zu_j, ge_iff_le, gt_iff_lt, ne_eq, Int.cast_ofNat_Int, Int.add_zero, Int.zero_add, Int.reduceAdd, Int.reduceSub, Int.reduceMul, Int.reduceNeg, ↓gq_129_0 hG, ↓gq_129_1 hG, ↓gq_129_2 hG, ↓gq_129_3 hG, ↓gq_129_7 hG, ↓gq_129_10 hG, ↓gq_129_11 hG, ↓gq_129_12 hG, ↓gq_129_13 hG, ↓gq_129_19 hG, ↓gq_129_21 hG, ↓gq_129_22 hG, ↓gq_129_23 hG, ↓gq_129_24 hG, ↓gq_129_25 hG, ↓gq_129_26 hG, ↓gq_129_28 hG, ↓gq_129_29 hG, ↓gq_129_33 hG, ↓gq_129_34 hG, ↓gq_129_35 hG, ↓gq_129_36 hG, g_129_0 hG, g_129_1 hG, g_129_2 hG, g_129_3 hG, g_129_7 hG, g_129_10 hG, g_129_11 hG, g_129_12 hG, g_129_13 hG, g_129_19 hG, g_129_21 hG, g_129_22 hG, g_129_23 hG, g_129_24 hG, g_129_25 hG, g_129_26 hG, g_129_28 hG, g_129_29 hG, g_129_33 hG, g_129_34 hG, g_129_35 hG, g_129_36 hG]
  · simp (disch := omega) only [↓(vq_129 e), zb_f, ↓zcall_ok, zcall_ok, ↓zjn_ok, zjn_ok, ↓zbl_0, zbl_0, ↓zbl_1, zbl_1, ↓if_pos, if_pos, ↓if_neg, if_neg, ↓zb_ite, zb_ite, ↓zb_itn, zb_itn, ↓gf_129, gf_129, ↓pf_129, pf_129, ↓vc_129, vc_129, if_true, if_false, not_true_eq_false, not_false_eq_true, zu_eq, zu_a, zu_j, ge_iff_le, gt_iff_lt, ne_eq, Int.cast_ofNat_Int, Int.add_zero, Int.zero_add, Int.reduceAdd, Int.reduceSub, Int.reduceMul, Int.reduceNeg, ↓gq_129_0 hG, ↓gq_129_1 hG, ↓gq_129_2 hG, ↓gq_129_3 hG, ↓gq_129_7 hG, ↓gq_129_10 hG, ↓gq_129_11 hG, ↓gq_129_12 hG, ↓gq_129_13 hG, ↓gq_129_19 hG, ↓gq_129_21 hG, ↓gq_129_22 hG, ↓gq_129_23 hG, ↓gq_129_24 hG, ↓gq_129_25 hG, ↓gq_129_26 hG, ↓gq_129_28 hG, ↓gq_129_29 hG, ↓gq_129_33 hG, ↓gq_129_34 hG, ↓gq_129_35 hG, ↓gq_129_36 hG, g_129_0 hG, g_129_1 hG, g_129_2 hG, g_129_3 hG, g_129_7 hG, g_129_10 hG, g_129_11 hG, g_129_12 hG, g_129_13 hG, g_129_19 hG, g_129_21 hG, g_129_22 hG, g_129_23 hG, g_129_24 hG, g_129_25 hG, g_129_26 hG, g_129_28 hG, g_129_29 hG, g_129_33 hG, g_129_34 hG, g_129_35 hG, g_129_36 hG]
theorem op_led {μ : zMem} (hG : zG0 μ) (hS : zGS μ) (hP : zGP μ) (p x : Int) : ∃ r, fX10_led 5 p x μ = some (r, μ) ∧ fX11_led 129 p x μ = some (r, μ) := by
  have hPc := hP
  obtain ⟨⟨h0, h1, h2⟩, h3⟩ := hPc
  unfold fX10_led fX11_led
  by_cases hp : 0 ≤ p ∧ p < μ 34 3
  · have hpp := h3 p hp.1 hp.2
    have hz : zbP p = 53 + 6 * p := rfl
    have e1 : fX1_paper 34 p μ = some (zbP p, μ) := by rw [s1_paper hG h1, if_pos hp]
    by_cases hx : 0 ≤ x ∧ x < μ 6 1
    · have e6 := s6_placeOf hG hp.1 (by omega) ⟨hpp.1.1, hpp.1.2.1⟩ x
      have er := s11_placeOf hG hp.1 (by omega) hpp x
      have eh := s11_has hG hp.1 (by omega) hpp x
      by_cases hq : 0 ≤ zpl (μ (zbP p + 2)) x (μ (zbP p) 1).toNat 0
      · refine ⟨zpl (μ (zbP p + 2)) x (μ (zbP p) 1).toNat 0, ?_, ?_⟩
        · simp (disch := omega) only [↓(vq_34 e1), s5_has, zb_t, ↓(vcP_of hp.1 (by omega) e6), ↓zcall_ok, zcall_ok, ↓zjn_ok, zjn_ok, ↓zbl_0, zbl_0, ↓zbl_1, zbl_1, ↓if_pos, if_pos, ↓if_neg, if_neg, ↓zb_ite, zb_ite, ↓zb_itn, zb_itn, ↓gf_5, gf_5, ↓pf_5, pf_5, ↓vc_5, vc_5, ↓gf_6, gf_6, ↓pf_6, pf_6, ↓vc_6, vc_6, ↓gf_34, gf_34, ↓pf_34, pf_34, ↓vc_34, vc_34, if_true, if_false, not_true_eq_false, not_false_eq_true, zu_eq, zu_a, zu_j, ge_iff_le, gt_iff_lt, ne_eq, Int.cast_ofNat_Int, Int.add_zero, Int.zero_add, Int.reduceAdd, Int.reduceSub, Int.reduceMul, Int.reduceNeg, ↓gq_5_0 hG, ↓gq_5_1 hG, ↓gq_5_2 hG, ↓gq_5_3 hG, ↓gq_5_4 hG, ↓gq_5_5 hG, ↓gq_5_6 hG, ↓gq_6_0 hG, ↓gq_34_0 hG, ↓gq_34_1 hG, ↓gq_34_2 hG, g_5_0 hG, g_5_1 hG, g_5_2 hG, g_5_3 hG, g_5_4 hG, g_5_5 hG, g_5_6 hG, g_6_0 hG, g_34_0 hG, g_34_1 hG, g_34_2 hG]
        · simp (disch := omega) only [↓(vq_129 (s11_isPaper hP p)), ↓(vq_129 (s11_isSaying hS x)), ↓(vq_129 eh), ↓(vq_129 er), ↓zcall_ok, zcall_ok, ↓zjn_ok, zjn_ok, ↓zbl_0, zbl_0, ↓zbl_1, zbl_1, ↓if_pos, if_pos, ↓if_neg, if_neg, ↓zb_ite, zb_ite, ↓zb_itn, zb_itn, ↓gf_129, gf_129, ↓pf_129, pf_129, ↓vc_129, vc_129, if_true, if_false, not_true_eq_false, not_false_eq_true, zu_eq, zu_a, zu_j, ge_iff_le, gt_iff_lt, ne_eq, Int.cast_ofNat_Int, Int.add_zero, Int.zero_add, Int.reduceAdd, Int.reduceSub, Int.reduceMul, Int.reduceNeg, ↓gq_129_0 hG, ↓gq_129_1 hG, ↓gq_129_2 hG, ↓gq_129_3 hG, ↓gq_129_7 hG, ↓gq_129_10 hG, ↓gq_129_11 hG, ↓gq_129_12 hG, ↓gq_129_13 hG, ↓gq_129_19 hG, ↓gq_129_21 hG, ↓gq_129_22 hG, ↓gq_129_23 hG, ↓gq_129_24 hG, ↓gq_129_25 hG, ↓gq_129_26 hG, ↓gq_129_28 hG, ↓gq_129_29 hG, ↓gq_129_33 hG, ↓gq_129_34 hG, ↓gq_129_35 hG, ↓gq_129_36 hG, g_129_0 hG, g_129_1 hG, g_129_2 hG, g_129_3 hG, g_129_7 hG, g_129_10 hG, g_129_11 hG, g_129_12 hG, g_129_13 hG, g_129_19 hG, g_129_21 hG, g_129_22 hG, g_129_23 hG, g_129_24 hG, g_129_25 hG, g_129_26 hG, g_129_28 hG, g_129_29 hG, g_129_33 hG, g_129_34 hG, g_129_35 hG, g_129_36 hG]
      · refine ⟨-2, ?_, ?_⟩
        · simp (disch := omega) only [↓(vq_34 e1), s5_has, zb_t, ↓(vcP_of hp.1 (by omega) e6), ↓zcall_ok, zcall_ok, ↓zjn_ok, zjn_ok, ↓zbl_0, zbl_0, ↓zbl_1, zbl_1, ↓if_pos, if_pos, ↓if_neg, if_neg, ↓zb_ite, zb_ite, ↓zb_itn, zb_itn, ↓gf_5, gf_5, ↓pf_5, pf_5, ↓vc_5, vc_5, ↓gf_6, gf_6, ↓pf_6, pf_6, ↓vc_6, vc_6, ↓gf_34, gf_34, ↓pf_34, pf_34, ↓vc_34, vc_34, if_true, if_false, not_true_eq_false, not_false_eq_true, zu_eq, zu_a, zu_j, ge_iff_le, gt_iff_lt, ne_eq, Int.cast_ofNat_Int, Int.add_zero, Int.zero_add, Int.reduceAdd, Int.reduceSub, Int.reduceMul, Int.reduceNeg, ↓gq_5_0 hG, ↓gq_5_1 hG, ↓gq_5_2 hG, ↓gq_5_3 hG, ↓gq_5_4 hG, ↓gq_5_5 hG, ↓gq_5_6 hG, ↓gq_6_0 hG, ↓gq_34_0 hG, ↓gq_34_1 hG, ↓gq_34_2 hG, g_5_0 hG, g_5_1 hG, g_5_2 hG, g_5_3 hG, g_5_4 hG, g_5_5 hG, g_5_6 hG, g_6_0 hG, g_34_0 hG, g_34_1 hG, g_34_2 hG]
        · simp (disch := omega) only [↓(vq_129 (s11_isPaper hP p)), ↓(vq_129 (s11_isSaying hS x)), ↓(vq_129 eh), ↓(vq_129 er), ↓zcall_ok, zcall_ok, ↓zjn_ok, zjn_ok, ↓zbl_0, zbl_0, ↓zbl_1, zbl_1, ↓if_pos, if_pos, ↓if_neg, if_neg, ↓zb_ite, zb_ite, ↓zb_itn, zb_itn, ↓gf_129, gf_129, ↓pf_129, pf_129, ↓vc_129, vc_129, if_true, if_false, not_true_eq_false, not_false_eq_true, zu_eq, zu_a, zu_j, ge_iff_le, gt_iff_lt, ne_eq, Int.cast_ofNat_Int, Int.add_zero, Int.zero_add, Int.reduceAdd, Int.reduceSub, Int.reduceMul, Int.reduceNeg, ↓gq_129_0 hG, ↓gq_129_1 hG, ↓gq_129_2 hG, ↓gq_129_3 hG, ↓gq_129_7 hG, ↓gq_129_10 hG, ↓gq_129_11 hG, ↓gq_129_12 hG, ↓gq_129_13 hG, ↓gq_129_19 hG, ↓gq_129_21 hG, ↓gq_129_22 hG, ↓gq_129_23 hG, ↓gq_129_24 hG, ↓gq_129_25 hG, ↓gq_129_26 hG, ↓gq_129_28 hG, ↓gq_129_29 hG, ↓gq_129_33 hG, ↓gq_129_34 hG, ↓gq_129_35 hG, ↓gq_129_36 hG, g_129_0 hG, g_129_1 hG, g_129_2 hG, g_129_3 hG, g_129_7 hG, g_129_10 hG, g_129_11 hG, g_129_12 hG, g_129_13 hG, g_129_19 hG, g_129_21 hG, g_129_22 hG, g_129_23 hG, g_129_24 hG, g_129_25 hG, g_129_26 hG, g_129_28 hG, g_129_29 hG, g_129_33 hG, g_129_34 hG, g_129_35 hG, g_129_36 hG]
    · refine ⟨-1, ?_, ?_⟩
      · simp (disch := omega) only [↓(vq_34 e1), s5_has, zb_f, ↓zcall_ok, zcall_ok, ↓zjn_ok, zjn_ok, ↓zbl_0, zbl_0, ↓zbl_1, zbl_1, ↓if_pos, if_pos, ↓if_neg, if_neg, ↓zb_ite, zb_ite, ↓zb_itn, zb_itn, ↓gf_5, gf_5, ↓pf_5, pf_5, ↓vc_5, vc_5, ↓gf_6, gf_6, ↓pf_6, pf_6, ↓vc_6, vc_6, ↓gf_34, gf_34, ↓pf_34, pf_34, ↓vc_34, vc_34, if_true, if_false, not_true_eq_false, not_false_eq_true, zu_eq, zu_a, zu_j, ge_iff_le, gt_iff_lt, ne_eq, Int.cast_ofNat_Int, Int.add_zero, Int.zero_add, Int.reduceAdd, Int.reduceSub, Int.reduceMul, Int.reduceNeg, ↓gq_5_0 hG, ↓gq_5_1 hG, ↓gq_5_2 hG, ↓gq_5_3 hG, ↓gq_5_4 hG, ↓gq_5_5 hG, ↓gq_5_6 hG, ↓gq_6_0 hG, ↓gq_34_0 hG, ↓gq_34_1 hG, ↓gq_34_2 hG, g_5_0 hG, g_5_1 hG, g_5_2 hG, g_5_3 hG, g_5_4 hG, g_5_5 hG, g_5_6 hG, g_6_0 hG, g_34_0 hG, g_34_1 hG, g_34_2 hG]
      · simp (disch := omega) only [↓(vq_129 (s11_isPaper hP p)), ↓(vq_129 (s11_isSaying hS x)), ↓zcall_ok, zcall_ok, ↓zjn_ok, zjn_ok, ↓zbl_0, zbl_0, ↓zbl_1, zbl_1, ↓if_pos, if_pos, ↓if_neg, if_neg, ↓zb_ite, zb_ite, ↓zb_itn, zb_itn, ↓gf_129, gf_129, ↓pf_129, pf_129, ↓vc_129, vc_129, if_true, if_false, not_true_eq_false, not_false_eq_true, zu_eq, zu_a, zu_j, ge_iff_le, gt_iff_lt, ne_eq, Int.cast_ofNat_Int, Int.add_zero, Int.zero_add, Int.reduceAdd, Int.reduceSub, Int.reduceMul, Int.reduceNeg, ↓gq_129_0 hG, ↓gq_129_1 hG, ↓gq_129_2 hG, ↓gq_129_3 hG, ↓gq_129_7 hG, ↓gq_129_10 hG, ↓gq_129_11 hG, ↓gq_129_12 hG, ↓gq_129_13 hG, ↓gq_129_19 hG, ↓gq_129_21 hG, ↓gq_129_22 hG, ↓gq_129_23 hG, ↓gq_129_24 hG, ↓gq_129_25 hG, ↓gq_129_26 hG, ↓gq_129_28 hG, ↓gq_129_29 hG, ↓gq_129_33 hG, ↓gq_129_34 hG, ↓gq_129_35 hG, ↓gq_129_36 hG, g_129_0 hG, g_129_1 hG, g_129_2 hG, g_129_3 hG, g_129_7 hG, g_129_10 hG, g_129_11 hG, g_129_12 hG, g_129_13 hG, g_129_19 hG, g_129_21 hG, g_129_22 hG, g_129_23 hG, g_129_24 hG, g_129_25 hG, g_129_26 hG, g_129_28 hG, g_129_29 hG, g_129_33 hG, g_129_34 hG, g_129_35 hG, g_129_36 hG]
  · have e1 : fX1_paper 34 p μ = some (-1, μ) := by rw [s1_paper hG h1, if_neg hp]
    refine ⟨-1, ?_, ?_⟩
    · simp (disch := omega) only [↓(vq_34 e1), ↓zcall_ok, zcall_ok, ↓zjn_ok, zjn_ok, ↓zbl_0, zbl_0, ↓zbl_1, zbl_1, ↓if_pos, if_pos, ↓if_neg, if_neg, ↓zb_ite, zb_ite, ↓zb_itn, zb_itn, ↓gf_5, gf_5, ↓pf_5, pf_5, ↓vc_5, vc_5, ↓gf_6, gf_6, ↓pf_6, pf_6, ↓vc_6, vc_6, ↓gf_34, gf_34, ↓pf_34, pf_34, ↓vc_34, vc_34, if_true, if_false, not_true_eq_false, not_false_eq_true, zu_eq, zu_a, zu_j, ge_iff_le, gt_iff_lt, ne_eq, Int.cast_ofNat_Int, Int.add_zero, Int.zero_add, Int.reduceAdd, Int.reduceSub, Int.reduceMul, Int.reduceNeg, ↓gq_5_0 hG, ↓gq_5_1 hG, ↓gq_5_2 hG, ↓gq_5_3 hG, ↓gq_5_4 hG, ↓gq_5_5 hG, ↓gq_5_6 hG, ↓gq_6_0 hG, ↓gq_34_0 hG, ↓gq_34_1 hG, ↓gq_34_2 hG, g_5_0 hG, g_5_1 hG, g_5_2 hG, g_5_3 hG, g_5_4 hG, g_5_5 hG, g_5_6 hG, g_6_0 hG, g_34_0 hG, g_34_1 hG, g_34_2 hG]
    · simp (disch := omega) only [↓(vq_129 (s11_isPaper hP p)), ↓zcall_ok, zcall_ok, ↓zjn_ok, zjn_ok, ↓zbl_0, zbl_0, ↓zbl_1, zbl_1, ↓if_pos, if_pos, ↓if_neg, if_neg, ↓zb_ite, zb_ite, ↓zb_itn, zb_itn, ↓gf_129, gf_129, ↓pf_129, pf_129, ↓vc_129, vc_129, if_true, if_false, not_true_eq_false, not_false_eq_true, zu_eq, zu_a, zu_j, ge_iff_le, gt_iff_lt, ne_eq, Int.cast_ofNat_Int, Int.add_zero, Int.zero_add, Int.reduceAdd, Int.reduceSub, Int.reduceMul, Int.reduceNeg, ↓gq_129_0 hG, ↓gq_129_1 hG, ↓gq_129_2 hG, ↓gq_129_3 hG, ↓gq_129_7 hG, ↓gq_129_10 hG, ↓gq_129_11 hG, ↓gq_129_12 hG, ↓gq_129_13 hG, ↓gq_129_19 hG, ↓gq_129_21 hG, ↓gq_129_22 hG, ↓gq_129_23 hG, ↓gq_129_24 hG, ↓gq_129_25 hG, ↓gq_129_26 hG, ↓gq_129_28 hG, ↓gq_129_29 hG, ↓gq_129_33 hG, ↓gq_129_34 hG, ↓gq_129_35 hG, ↓gq_129_36 hG, g_129_0 hG, g_129_1 hG, g_129_2 hG, g_129_3 hG, g_129_7 hG, g_129_10 hG, g_129_11 hG, g_129_12 hG, g_129_13 hG, g_129_19 hG, g_129_21 hG, g_129_22 hG, g_129_23 hG, g_129_24 hG, g_129_25 hG, g_129_26 hG, g_129_28 hG, g_129_29 hG, g_129_33 hG, g_129_34 hG, g_129_35 hG, g_129_36 hG]
