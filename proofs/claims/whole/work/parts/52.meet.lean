/-! ===== sayings ===== -/
/-- the sayings, on both sides -/
def zfit (w v : Int) : Prop := (w = 0 ∧ 0 ≤ v ∧ v ≤ 10) ∨ (w = 1 ∧ 0 ≤ v ∧ v ≤ 3) ∨ (w = 2 ∧ 0 ≤ v ∧ v ≤ 7) ∨ (w = 3 ∧ 1 ≤ v ∧ v ≤ 30)
def zGS (μ : zMem) : Prop := 0 ≤ μ 6 1 ∧ μ 6 1 ≤ 16 ∧ μ 129 6 = μ 6 1 ∧ (∀ w i : Int, 0 ≤ w → w < 4 → 0 ≤ i → i < 16 → μ 130 (16 * w + i) = μ (8 + w) i) ∧ ∀ w i : Int, 0 ≤ w → w < 4 → 0 ≤ i → i < μ 6 1 → zfit w (μ (8 + w) i)
theorem zst1_ (μ : zMem) (h : zG0 μ) {k : Nat} {j : Nat} (h1 : 1 ≤ k) (h2 : k ≤ 4) (h3 : j < (zshp k).2) : μ (k : Int) (j : Int) = zSV k j := h.2.2 k j h1 h2 h3
theorem zleast {μ : zMem} (h : zG0 μ) {w : Int} (h0 : 0 ≤ w) (h1 : w < 4) : μ 1 w = (if w = 3 then 1 else 0) := by
  rcases znat4 h0 h1 with rfl | rfl | rfl | rfl
  · exact h.2.2 1 0 (by decide) (by decide) (by decide +kernel)
  · exact h.2.2 1 1 (by decide) (by decide) (by decide +kernel)
  · exact h.2.2 1 2 (by decide) (by decide) (by decide +kernel)
  · exact h.2.2 1 3 (by decide) (by decide) (by decide +kernel)
theorem zgreat {μ : zMem} (h : zG0 μ) {w : Int} (h0 : 0 ≤ w) (h1 : w < 4) : μ 2 w = (if w = 0 then 10 else if w = 1 then 3 else if w = 2 then 7 else 30) := by
  rcases znat4 h0 h1 with rfl | rfl | rfl | rfl
  · exact h.2.2 2 0 (by decide) (by decide) (by decide +kernel)
  · exact h.2.2 2 1 (by decide) (by decide) (by decide +kernel)
  · exact h.2.2 2 2 (by decide) (by decide) (by decide +kernel)
  · exact h.2.2 2 3 (by decide) (by decide) (by decide +kernel)
theorem s5_fits {μ : zMem} (hG : zG0 μ) (w v : Int) : (zfit w v → fX5_fits w v μ = some (1, μ)) ∧ (¬ zfit w v → fX5_fits w v μ = some (0, μ)) := by
  have e : 0 ≤ w → w < 4 → fX5_fits w v μ = some (if μ 1 w ≤ v ∧ v ≤ μ 2 w then 1 else 0, μ) := fun h0 h1 => by
    unfold fX5_fits
    simp (disch := omega) only [if_true, if_false, not_true_eq_false, not_false_eq_true, zcall_ok, zjn_ok, zbl_0, zbl_1, zu_eq, zu_a, zu_j, if_pos, if_neg, ge_iff_le, gt_iff_lt, ne_eq, Int.cast_ofNat_Int, Int.add_zero, Int.zero_add, Int.reduceAdd, Int.reduceSub, Int.reduceMul, Int.reduceNeg, al_1, al_2]
    by_cases h2 : v < μ 1 w
    · simp (disch := omega) only [if_true, if_false, not_true_eq_false, not_false_eq_true, zcall_ok, zjn_ok, zbl_0, zbl_1, zu_eq, zu_a, zu_j, if_pos, if_neg, ge_iff_le, gt_iff_lt, ne_eq, Int.cast_ofNat_Int, Int.add_zero, Int.zero_add, Int.reduceAdd, Int.reduceSub, Int.reduceMul, Int.reduceNeg, al_1, al_2]
    · by_cases h3 : v > μ 2 w
      · simp (disch := omega) only [if_true, if_false, not_true_eq_false, not_false_eq_true, zcall_ok, zjn_ok, zbl_0, zbl_1, zu_eq, zu_a, zu_j, if_pos, if_neg, ge_iff_le, gt_iff_lt, ne_eq, Int.cast_ofNat_Int, Int.add_zero, Int.zero_add, Int.reduceAdd, Int.reduceSub, Int.reduceMul, Int.reduceNeg, al_1, al_2]
      · simp (disch := omega) only [if_true, if_false, not_true_eq_false, not_false_eq_true, zcall_ok, zjn_ok, zbl_0, zbl_1, zu_eq, zu_a, zu_j, if_pos, if_neg, ge_iff_le, gt_iff_lt, ne_eq, Int.cast_ofNat_Int, Int.add_zero, Int.zero_add, Int.reduceAdd, Int.reduceSub, Int.reduceMul, Int.reduceNeg, al_1, al_2]
  by_cases hw : 0 ≤ w ∧ w < 4
  · rw [e hw.1 hw.2, zleast hG hw.1 hw.2, zgreat hG hw.1 hw.2]
    unfold zfit
    refine ⟨fun h => ?_, fun h => ?_⟩
    · rw [if_pos]
      rcases znat4 hw.1 hw.2 with rfl | rfl | rfl | rfl <;> simp at h ⊢ <;> omega
    · rw [if_neg]
      rcases znat4 hw.1 hw.2 with rfl | rfl | rfl | rfl <;> simp at h ⊢ <;> omega
  · have hn : ¬ zfit w v := by unfold zfit; omega
    refine ⟨fun h => absurd h hn, fun _ => ?_⟩
    unfold fX5_fits
    by_cases h0 : w < 0
    · simp (disch := omega) only [if_true, if_false, not_true_eq_false, not_false_eq_true, zcall_ok, zjn_ok, zbl_0, zbl_1, zu_eq, zu_a, zu_j, if_pos, if_neg, ge_iff_le, gt_iff_lt, ne_eq, Int.cast_ofNat_Int, Int.add_zero, Int.zero_add, Int.reduceAdd, Int.reduceSub, Int.reduceMul, Int.reduceNeg, al_1, al_2]
    · simp (disch := omega) only [if_true, if_false, not_true_eq_false, not_false_eq_true, zcall_ok, zjn_ok, zbl_0, zbl_1, zu_eq, zu_a, zu_j, if_pos, if_neg, ge_iff_le, gt_iff_lt, ne_eq, Int.cast_ofNat_Int, Int.add_zero, Int.zero_add, Int.reduceAdd, Int.reduceSub, Int.reduceMul, Int.reduceNeg, al_1, al_2]
theorem s5_has {μ : zMem} (i : Int) : fX5_has 6 i μ = some (zb (0 ≤ i ∧ i < μ 6 1), μ) := by
  unfold fX5_has
  by_cases h0 : i < 0
  · simp (disch := omega) only [zb_f, if_true, if_false, not_true_eq_false, not_false_eq_true, zcall_ok, zjn_ok, zbl_0, zbl_1, zu_eq, zu_a, zu_j, if_pos, if_neg, ge_iff_le, gt_iff_lt, ne_eq, Int.cast_ofNat_Int, Int.add_zero, Int.zero_add, Int.reduceAdd, Int.reduceSub, Int.reduceMul, Int.reduceNeg, gf_6, pf_6, vc_6]
  · by_cases h1 : i < μ 6 1
    · simp (disch := omega) only [zb_t, if_true, if_false, not_true_eq_false, not_false_eq_true, zcall_ok, zjn_ok, zbl_0, zbl_1, zu_eq, zu_a, zu_j, if_pos, if_neg, ge_iff_le, gt_iff_lt, ne_eq, Int.cast_ofNat_Int, Int.add_zero, Int.zero_add, Int.reduceAdd, Int.reduceSub, Int.reduceMul, Int.reduceNeg, gf_6, pf_6, vc_6]
    · simp (disch := omega) only [zb_f, if_true, if_false, not_true_eq_false, not_false_eq_true, zcall_ok, zjn_ok, zbl_0, zbl_1, zu_eq, zu_a, zu_j, if_pos, if_neg, ge_iff_le, gt_iff_lt, ne_eq, Int.cast_ofNat_Int, Int.add_zero, Int.zero_add, Int.reduceAdd, Int.reduceSub, Int.reduceMul, Int.reduceNeg, gf_6, pf_6, vc_6]
theorem s5_size {μ : zMem} : fX5_size 6 μ = some (μ 6 1, μ) := by
  unfold fX5_size
  simp (disch := omega) only [if_true, if_false, not_true_eq_false, not_false_eq_true, zcall_ok, zjn_ok, zbl_0, zbl_1, zu_eq, zu_a, zu_j, if_pos, if_neg, ge_iff_le, gt_iff_lt, ne_eq, Int.cast_ofNat_Int, Int.add_zero, Int.zero_add, Int.reduceAdd, Int.reduceSub, Int.reduceMul, Int.reduceNeg, gf_6, pf_6, vc_6]
theorem s5_part {μ : zMem} (hG : zG0 μ) (hN : μ 6 1 ≤ 16) (i w : Int) : fX5_part 6 i w μ = some (if 0 ≤ i ∧ i < μ 6 1 ∧ 0 ≤ w ∧ w < 4 then μ (8 + w) i else 0, μ) := by
  unfold fX5_part
  by_cases h : 0 ≤ i ∧ i < μ 6 1 ∧ 0 ≤ w ∧ w < 4
  · simp (disch := omega) only [g_7 hG, al8, if_true, if_false, not_true_eq_false, not_false_eq_true, zcall_ok, zjn_ok, zbl_0, zbl_1, zu_eq, zu_a, zu_j, if_pos, if_neg, ge_iff_le, gt_iff_lt, ne_eq, Int.cast_ofNat_Int, Int.add_zero, Int.zero_add, Int.reduceAdd, Int.reduceSub, Int.reduceMul, Int.reduceNeg, gf_6, pf_6, vc_6, al_7, ln_7, g_6_0 hG, g_7_0 hG, g_7_1 hG, g_7_2 hG, g_7_3 hG]
  · rw [if_neg h]
    by_cases h0 : i < 0
    · simp (disch := omega) only [if_true, if_false, not_true_eq_false, not_false_eq_true, zcall_ok, zjn_ok, zbl_0, zbl_1, zu_eq, zu_a, zu_j, if_pos, if_neg, ge_iff_le, gt_iff_lt, ne_eq, Int.cast_ofNat_Int, Int.add_zero, Int.zero_add, Int.reduceAdd, Int.reduceSub, Int.reduceMul, Int.reduceNeg, gf_6, pf_6, vc_6, g_6_0 hG]
    · by_cases h1 : i ≥ μ 6 1
      · simp (disch := omega) only [if_true, if_false, not_true_eq_false, not_false_eq_true, zcall_ok, zjn_ok, zbl_0, zbl_1, zu_eq, zu_a, zu_j, if_pos, if_neg, ge_iff_le, gt_iff_lt, ne_eq, Int.cast_ofNat_Int, Int.add_zero, Int.zero_add, Int.reduceAdd, Int.reduceSub, Int.reduceMul, Int.reduceNeg, gf_6, pf_6, vc_6, g_6_0 hG]
      · by_cases h2 : w < 0
        · simp (disch := omega) only [if_true, if_false, not_true_eq_false, not_false_eq_true, zcall_ok, zjn_ok, zbl_0, zbl_1, zu_eq, zu_a, zu_j, if_pos, if_neg, ge_iff_le, gt_iff_lt, ne_eq, Int.cast_ofNat_Int, Int.add_zero, Int.zero_add, Int.reduceAdd, Int.reduceSub, Int.reduceMul, Int.reduceNeg, gf_6, pf_6, vc_6, g_6_0 hG]
        · simp (disch := omega) only [if_true, if_false, not_true_eq_false, not_false_eq_true, zcall_ok, zjn_ok, zbl_0, zbl_1, zu_eq, zu_a, zu_j, if_pos, if_neg, ge_iff_le, gt_iff_lt, ne_eq, Int.cast_ofNat_Int, Int.add_zero, Int.zero_add, Int.reduceAdd, Int.reduceSub, Int.reduceMul, Int.reduceNeg, gf_6, pf_6, vc_6, g_6_0 hG]
def zsm (f : Int → Int) : Nat → Int
  | 0 => 0
  | n + 1 => zsm f n + f n
theorem zsm_le {f : Int → Int} {c : Int} {N : Nat} (h : ∀ i : Int, 0 ≤ i → i < N → 0 ≤ f i ∧ f i ≤ c) : ∀ n : Nat, n ≤ N → 0 ≤ zsm f n ∧ zsm f n ≤ c * n
  | 0, _ => by simp [zsm]
  | n + 1, hn => by
    have h1 := zsm_le h n (by omega)
    have h2 := h n (by omega) (by omega)
    simp only [zsm]
    rw [Int.natCast_add, Int.mul_add]
    omega
theorem s5_minute {μ : zMem} (hG : zG0 μ) (hS : zGS μ) {i : Int} (h0 : 0 ≤ i) (h1 : i ≤ μ 6 1) : fX5_minute 6 i μ = some (zsm (μ 11) i.toNat, μ) := by
  obtain ⟨hN0, hN, -, -, hf⟩ := hS
  have hb := zsm_le (f := μ 11) (c := 30) (N := (μ 6 1).toNat) (fun k hk hk2 => by
    have := hf 3 k (by omega) (by omega) hk (by omega)
    unfold zfit at this
    rw [show (8 : Int) + 3 = 11 by rfl] at this
    omega)
  unfold fX5_minute
  refine zlp_meas (fun k (f : Int → Int → zMem → zRs) => ∀ (acc : Int) (n : Nat), (n : Int) ≤ i → i - n < k → acc = zsm (μ 11) n → f acc (n : Int) μ = some (zsm (μ 11) i.toNat, μ)) ?_ ?_ 1000000 0 0 (by omega) (by omega) rfl
  · intro acc n hn hk _
    omega
  · intro k f ih acc n hn hk hacc
    subst hacc
    by_cases hi : (n : Int) = i
    · simp (disch := omega) only [if_true, if_false, not_true_eq_false, not_false_eq_true, zcall_ok, zjn_ok, zbl_0, zbl_1, zu_eq, zu_a, zu_j, if_pos, if_neg, ge_iff_le, gt_iff_lt, ne_eq, Int.cast_ofNat_Int, Int.add_zero, Int.zero_add, Int.reduceAdd, Int.reduceSub, Int.reduceMul, Int.reduceNeg, gf_6, pf_6, vc_6, al_7, ln_7, al_11, as_11, ln_11, g_6_0 hG, g_7_0 hG, g_7_1 hG, g_7_2 hG, g_7_3 hG]
      subst hi
      rfl
    · have h2 := hb (n + 1) (by omega)
      have h3 := hb n (by omega)
      simp (disch := omega) only [zw32_id, if_true, if_false, not_true_eq_false, not_false_eq_true, zcall_ok, zjn_ok, zbl_0, zbl_1, zu_eq, zu_a, zu_j, if_pos, if_neg, ge_iff_le, gt_iff_lt, ne_eq, Int.cast_ofNat_Int, Int.add_zero, Int.zero_add, Int.reduceAdd, Int.reduceSub, Int.reduceMul, Int.reduceNeg, gf_6, pf_6, vc_6, al_7, ln_7, al_11, as_11, ln_11, g_6_0 hG, g_7_0 hG, g_7_1 hG, g_7_2 hG, g_7_3 hG]
      have h4 := ih (zsm (μ 11) (n + 1)) (n + 1) (by omega) (by omega) rfl
      simp only [zsm] at h2 h4
      rw [zw32_id (x := zsm (μ 11) n + μ 11 n) (by omega) (by omega)]
      exact h4
