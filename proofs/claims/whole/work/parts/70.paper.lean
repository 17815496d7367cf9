/-! ===== papers ===== -/
/-- a paper p on both sides, for N sayings -/
def zPp (μ : zMem) (N p : Int) : Prop := (0 ≤ μ (zbP p) 1 ∧ μ (zbP p) 1 ≤ 16 ∧ μ 141 p = μ (zbP p) 1) ∧ (μ 140 p = μ (zbP p) 2 ∧ -1 ≤ μ (zbP p) 2 ∧ μ (zbP p) 2 < 4) ∧
  (∀ k : Int, 0 ≤ k → k < μ (zbP p) 1 → μ 142 (16 * p + k) = μ (zbP p + 2 + 0) k ∧ μ 143 (16 * p + k) = μ (zbP p + 2 + 1) k ∧ μ 144 (16 * p + k) = μ (zbP p + 2 + 2) k ∧ μ 145 (16 * p + k) = μ (zbP p + 2 + 3) k ∧
    (0 ≤ μ (zbP p + 2 + 0) k ∧ μ (zbP p + 2 + 0) k < N) ∧ (0 ≤ μ (zbP p + 2 + 1) k ∧ μ (zbP p + 2 + 1) k ≤ 3) ∧ (0 ≤ μ (zbP p + 2 + 2) k ∧ μ (zbP p + 2 + 2) k ≤ 999) ∧ (0 ≤ μ (zbP p + 2 + 3) k ∧ μ (zbP p + 2 + 3) k ≤ 1)) ∧
  ∀ k l : Int, 0 ≤ k → k < l → l < μ (zbP p) 1 → μ (zbP p + 2 + 0) k ≠ μ (zbP p + 2 + 0) l
def zGP (μ : zMem) : Prop := (0 ≤ μ 34 3 ∧ μ 34 3 ≤ 10 ∧ μ 129 20 = μ 34 3) ∧ ∀ p : Int, 0 ≤ p → p < μ 34 3 → zPp μ (μ 6 1) p
theorem tgP1 {p : Int} (h0 : 0 ≤ p) (h1 : p < 10) {j : Nat} : ztag (zbP p) j = 600 + j := by
  rcases znat10 h0 h1 with rfl | rfl | rfl | rfl | rfl | rfl | rfl | rfl | rfl | rfl <;> rfl
theorem tgP2 {p w : Int} (h0 : 0 ≤ p) (h1 : p < 10) (h2 : 0 ≤ w) (h3 : w < 4) {j : Int} : ztag (zbP p + 2 + w) j = 600 := by
  rcases znat10 h0 h1 with rfl | rfl | rfl | rfl | rfl | rfl | rfl | rfl | rfl | rfl <;> rcases znat4 h2 h3 with rfl | rfl | rfl | rfl <;> rfl
theorem zPp_keep {μ μ' : zMem} {N N' p : Int} (h0 : 0 ≤ p) (h1 : p < 10) (h : zPp μ N p) (k : ∀ a j : Int, ztag a j ∈ [103, 600, 601, 602, 1120, 1121, 1122, 1123, 1124, 1125, 1126] → μ' a j = μ a j) (hN : N ≤ N') : zPp μ' N' p := by
  have e1 : μ' (zbP p) 1 = μ (zbP p) 1 := k _ _ (by rw [show (1 : Int) = (1 : Nat) from rfl, tgP1 h0 h1]; decide)
  have e2 : μ' (zbP p) 2 = μ (zbP p) 2 := k _ _ (by rw [show (2 : Int) = (2 : Nat) from rfl, tgP1 h0 h1]; decide)
  have er : ∀ w j : Int, 0 ≤ w → w < 4 → μ' (zbP p + 2 + w) j = μ (zbP p + 2 + w) j := fun w j w0 w1 => k _ _ (by rw [tgP2 h0 h1 w0 w1]; decide)
  unfold zPp at h ⊢
  rw [e1, e2, k 141 p (by rw [tg_141]; decide), k 140 p (by rw [tg_140]; decide)]
  obtain ⟨a, b, c, d⟩ := h
  refine ⟨a, b, fun i i0 i1 => ?_, fun i l i0 i1 i2 => ?_⟩
  · rw [er 0 i (by omega) (by omega), er 1 i (by omega) (by omega), er 2 i (by omega) (by omega), er 3 i (by omega) (by omega), k 142 _ (by rw [tg_142]; decide), k 143 _ (by rw [tg_143]; decide), k 144 _ (by rw [tg_144]; decide), k 145 _ (by rw [tg_145]; decide)]
    obtain ⟨c1, c2, c3, c4, c5, c6⟩ := c i i0 i1
    exact ⟨c1, c2, c3, c4, ⟨c5.1, by omega⟩, c6⟩
  · rw [er 0 i (by omega) (by omega), er 0 l (by omega) (by omega)]
    exact d i l i0 i1 i2
theorem zGP_keep {μ μ' : zMem} (h : zGP μ) (k : ∀ a j : Int, ztag a j ∈ [103, 600, 601, 602, 1120, 1121, 1122, 1123, 1124, 1125, 1126] → μ' a j = μ a j) (hN : μ 6 1 ≤ μ' 6 1) : zGP μ' := by
  obtain ⟨⟨h0, h1, h2⟩, h3⟩ := h
  have e : μ' 34 3 = μ 34 3 := k 34 3 (by rw [tf_34_3]; decide)
  refine ⟨⟨by omega, by omega, by rw [e, k 129 20 (by rw [tf_129_20]; decide)]; exact h2⟩, fun p p0 p1 => zPp_keep p0 (by omega) (h3 p p0 (by omega)) k hN⟩
theorem s1_paper {μ : zMem} (hG : zG0 μ) (h1 : μ 34 3 ≤ 10) (p : Int) : fX1_paper 34 p μ = some (if 0 ≤ p ∧ p < μ 34 3 then zbP p else -1, μ) := by
  unfold fX1_paper
  by_cases h0 : p < 0
  · simp (disch := omega) only [↓zcall_ok, zcall_ok, ↓zjn_ok, zjn_ok, ↓zbl_0, zbl_0, ↓zbl_1, zbl_1, ↓if_pos, if_pos, ↓if_neg, if_neg, ↓zb_ite, zb_ite, ↓zb_itn, zb_itn, ↓gf_34, gf_34, ↓pf_34, pf_34, ↓vc_34, vc_34, if_true, if_false, not_true_eq_false, not_false_eq_true, zu_eq, zu_a, zu_j, ge_iff_le, gt_iff_lt, ne_eq, Int.cast_ofNat_Int, Int.add_zero, Int.zero_add, Int.reduceAdd, Int.reduceSub, Int.reduceMul, Int.reduceNeg, ↓gq_34_0 hG, ↓gq_34_1 hG, ↓gq_34_2 hG, g_34_0 hG, g_34_1 hG, g_34_2 hG]
  · by_cases h2 : p < μ 34 3
    · simp (disch := omega) only [↓aq_35 hG, ↓zcall_ok, zcall_ok, ↓zjn_ok, zjn_ok, ↓zbl_0, zbl_0, ↓zbl_1, zbl_1, ↓if_pos, if_pos, ↓if_neg, if_neg, ↓zb_ite, zb_ite, ↓zb_itn, zb_itn, ↓gf_34, gf_34, ↓pf_34, pf_34, ↓vc_34, vc_34, if_true, if_false, not_true_eq_false, not_false_eq_true, zu_eq, zu_a, zu_j, ge_iff_le, gt_iff_lt, ne_eq, Int.cast_ofNat_Int, Int.add_zero, Int.zero_add, Int.reduceAdd, Int.reduceSub, Int.reduceMul, Int.reduceNeg, ↓gq_34_0 hG, ↓gq_34_1 hG, ↓gq_34_2 hG, g_34_0 hG, g_34_1 hG, g_34_2 hG]
    · simp (disch := omega) only [↓zcall_ok, zcall_ok, ↓zjn_ok, zjn_ok, ↓zbl_0, zbl_0, ↓zbl_1, zbl_1, ↓if_pos, if_pos, ↓if_neg, if_neg, ↓zb_ite, zb_ite, ↓zb_itn, zb_itn, ↓gf_34, gf_34, ↓pf_34, pf_34, ↓vc_34, vc_34, if_true, if_false, not_true_eq_false, not_false_eq_true, zu_eq, zu_a, zu_j, ge_iff_le, gt_iff_lt, ne_eq, Int.cast_ofNat_Int, Int.add_zero, Int.zero_add, Int.reduceAdd, Int.reduceSub, Int.reduceMul, Int.reduceNeg, ↓gq_34_0 hG, ↓gq_34_1 hG, ↓gq_34_2 hG, g_34_0 hG, g_34_1 hG, g_34_2 hG]
theorem s11_isPaper {μ : zMem} (hP : zGP μ) (p : Int) : fX11_isPaper 129 p μ = some (zb (0 ≤ p ∧ p < μ 34 3), μ) := by
  obtain ⟨⟨h0, h1, h2⟩, -⟩ := hP
  unfold fX11_isPaper
  simp (disch := omega) only [gf_129, Int.cast_ofNat_Int, s11_within, zcall_ok, h2, zw32_id, zbl_ok zb01]
  congr 2
  by_cases h : 0 ≤ p ∧ p < μ 34 3
  · rw [zb_t h, zb_t (by omega)]
  · rw [zb_f h, zb_f (by omega)]
/-- the first place below n, from i on, where f is x; -1 where there is none -/
def zpl (f : Int → Int) (x : Int) : Nat → Int → Int
  | 0, _ => -1
  | n + 1, i => if f i = x then i else zpl f x n (i + 1)
theorem zpl_in {f : Int → Int} {x : Int} : ∀ (n : Nat) (i : Int), zpl f x n i = -1 ∨ (i ≤ zpl f x n i ∧ zpl f x n i < i + n ∧ f (zpl f x n i) = x)
  | 0, _ => Or.inl rfl
  | n + 1, i => by
    unfold zpl
    by_cases h : f i = x
    · rw [if_pos h]
      exact Or.inr ⟨by omega, by omega, h⟩
    · rw [if_neg h]
      rcases zpl_in (f := f) (x := x) n (i + 1) with q | q
      · exact Or.inl q
      · exact Or.inr ⟨by omega, by omega, q.2.2⟩
theorem s6_placeOf {μ : zMem} (hG : zG0 μ) {p : Int} (h0 : 0 ≤ p) (h1 : p < 10) (hs : 0 ≤ μ (zbP p) 1 ∧ μ (zbP p) 1 ≤ 16) (x : Int) : fX6_placeOf (zbP p) x μ = some (zpl (μ (zbP p + 2 + 0)) x (μ (zbP p) 1).toNat 0, μ) := by
  have hz : zbP p = 53 + 6 * p := rfl
  unfold fX6_placeOf
  refine zlp_meas (fun k (f : Int → zMem → zRs) => ∀ (v : Int), 0 ≤ v → v ≤ μ (zbP p) 1 → μ (zbP p) 1 - v < k → f v μ = some (zpl (μ (zbP p + 2 + 0)) x (μ (zbP p) 1 - v).toNat v, μ)) ?_ ?_ 1000000 0 (by omega) (by omega) (by omega) |>.trans (by rw [Int.sub_zero])
  · intro v a1 a2 a3
    omega
  · intro k f ih v a1 a2 a3
    by_cases hv : v = μ (zbP p) 1
    · simp (disch := omega) only [↓gfP, gfP, ↓zcall_ok, zcall_ok, ↓zjn_ok, zjn_ok, ↓zbl_0, zbl_0, ↓zbl_1, zbl_1, ↓if_pos, if_pos, ↓if_neg, if_neg, ↓zb_ite, zb_ite, ↓zb_itn, zb_itn, ↓gf_6, gf_6, ↓pf_6, pf_6, ↓vc_6, vc_6, if_true, if_false, not_true_eq_false, not_false_eq_true, zu_eq, zu_a, zu_j, ge_iff_le, gt_iff_lt, ne_eq, Int.cast_ofNat_Int, Int.add_zero, Int.zero_add, Int.reduceAdd, Int.reduceSub, Int.reduceMul, Int.reduceNeg]
      rw [hv, Int.sub_self]
      rfl
    · obtain ⟨n, hn⟩ : ∃ n : Nat, (μ (zbP p) 1 - v).toNat = n + 1 := ⟨(μ (zbP p) 1 - v).toNat - 1, by omega⟩
      rw [hn, zpl]
      by_cases hq : μ (zbP p + 2 + 0) v = x
      · have hq' : μ (zbP p + 2) v = x := by rw [← hq, Int.add_zero]
        rw [if_pos hq]
        simp (disch := omega) only [↓gqP hG, gfP, ↓aqPe hG, alPr, hq', ↓zcall_ok, zcall_ok, ↓zjn_ok, zjn_ok, ↓zbl_0, zbl_0, ↓zbl_1, zbl_1, ↓if_pos, if_pos, ↓if_neg, if_neg, ↓zb_ite, zb_ite, ↓zb_itn, zb_itn, ↓gf_6, gf_6, ↓pf_6, pf_6, ↓vc_6, vc_6, if_true, if_false, not_true_eq_false, not_false_eq_true, zu_eq, zu_a, zu_j, ge_iff_le, gt_iff_lt, ne_eq, Int.cast_ofNat_Int, Int.add_zero, Int.zero_add, Int.reduceAdd, Int.reduceSub, Int.reduceMul, Int.reduceNeg]
        sorry
      · have := ih (v + 1) (by omega) (by omega) (by omega)
        rw [show (μ (zbP p) 1 - (v + 1)).toNat = n by omega] at this
        rw [if_neg hq, ← this]
        simp (disch := omega) only [↓gqP hG, gfP, ↓aqPe hG, alPr, zw32_id, ↓zcall_ok, zcall_ok, ↓zjn_ok, zjn_ok, ↓zbl_0, zbl_0, ↓zbl_1, zbl_1, ↓if_pos, if_pos, ↓if_neg, if_neg, ↓zb_ite, zb_ite, ↓zb_itn, zb_itn, ↓gf_6, gf_6, ↓pf_6, pf_6, ↓vc_6, vc_6, if_true, if_false, not_true_eq_false, not_false_eq_true, zu_eq, zu_a, zu_j, ge_iff_le, gt_iff_lt, ne_eq, Int.cast_ofNat_Int, Int.add_zero, Int.zero_add, Int.reduceAdd, Int.reduceSub, Int.reduceMul, Int.reduceNeg]
        sorry
