/-! ===== of, mend, undo, redo ===== -/
theorem zlp_S {α : Type} {bot : α} {F : α → α} {n : Nat} : zlp bot F (n + 1) = F (zlp bot F n) := rfl
theorem zsm_congr {f g : Int → Int} : ∀ n : Nat, (∀ i : Int, 0 ≤ i → i < n → f i = g i) → zsm f n = zsm g n
  | 0, _ => rfl
  | n + 1, h => by
    simp only [zsm]
    rw [zsm_congr n (fun i h0 h1 => h i h0 (by omega)), h n (by omega) (by omega)]
theorem s11_minuteOf {μ : zMem} (hG : zG0 μ) (hS : zGS μ) {i : Int} (h0 : 0 ≤ i) (h1 : i ≤ μ 6 1) : fX11_minuteOf 129 i μ = some (zsm (μ 11) i.toNat, μ) := by
  obtain ⟨hN0, hN, -, hm, hf⟩ := hS
  have hb := zsm_le (f := μ 11) (c := 30) (N := (μ 6 1).toNat) (fun k hk hk2 => by
    have := hf 3 k (by omega) (by omega) hk (by omega)
    unfold zfit at this
    rw [show (8 : Int) + 3 = 11 by rfl] at this
    omega)
  unfold fX11_minuteOf
  refine zlp_meas (fun k (f : Int → Int → zMem → zRs) => ∀ (acc : Int) (n : Nat), (n : Int) ≤ i → i - n < k → acc = zsm (μ 11) n → f acc (n : Int) μ = some (zsm (μ 11) i.toNat, μ)) ?_ ?_ 1000000 0 0 (by omega) (by omega) rfl
  · intro acc n hn hk _
    omega
  · intro k f ih acc n hn hk hacc
    subst hacc
    by_cases hi : (n : Int) = i
    · simp (disch := omega) only [if_true, if_false, not_true_eq_false, not_false_eq_true, zcall_ok, zjn_ok, zbl_0, zbl_1, zu_eq, zu_a, zu_j, if_pos, if_neg, ge_iff_le, gt_iff_lt, ne_eq, Int.cast_ofNat_Int, Int.add_zero, Int.zero_add, Int.reduceAdd, Int.reduceSub, Int.reduceMul, Int.reduceNeg, gf_129, pf_129, vc_129, al_130, as_130, ln_130, g_129_0 hG, g_129_1 hG, g_129_2 hG, g_129_3 hG, g_129_7 hG, g_129_10 hG, g_129_11 hG, g_129_12 hG, g_129_13 hG, g_129_19 hG, g_129_21 hG, g_129_22 hG, g_129_23 hG, g_129_24 hG, g_129_25 hG, g_129_26 hG, g_129_28 hG, g_129_29 hG, g_129_33 hG, g_129_34 hG, g_129_35 hG, g_129_36 hG]
      subst hi
      rfl
    · have h2 := hb (n + 1) (by omega)
      have h3 := hb n (by omega)
      have h5 := hm 3 n (by omega) (by omega) (by omega) (by omega)
      rw [show (8 : Int) + 3 = 11 by rfl] at h5
      simp (disch := omega) only [zw32_id, if_true, if_false, not_true_eq_false, not_false_eq_true, zcall_ok, zjn_ok, zbl_0, zbl_1, zu_eq, zu_a, zu_j, if_pos, if_neg, ge_iff_le, gt_iff_lt, ne_eq, Int.cast_ofNat_Int, Int.add_zero, Int.zero_add, Int.reduceAdd, Int.reduceSub, Int.reduceMul, Int.reduceNeg, gf_129, pf_129, vc_129, al_130, as_130, ln_130, g_129_0 hG, g_129_1 hG, g_129_2 hG, g_129_3 hG, g_129_7 hG, g_129_10 hG, g_129_11 hG, g_129_12 hG, g_129_13 hG, g_129_19 hG, g_129_21 hG, g_129_22 hG, g_129_23 hG, g_129_24 hG, g_129_25 hG, g_129_26 hG, g_129_28 hG, g_129_29 hG, g_129_33 hG, g_129_34 hG, g_129_35 hG, g_129_36 hG]
      have h4 := ih (zsm (μ 11) (n + 1)) (n + 1) (by omega) (by omega) rfl
      simp only [zsm] at h2 h4
      rw [show (48 : Int) + (n : Int) = 16 * 3 + n by omega, h5, zw32_id (x := zsm (μ 11) n + μ 11 n) (by omega) (by omega)]
      exact h4
theorem op_of {μ : zMem} (hG : zG0 μ) (hS : zGS μ) (i w : Int) : ∃ r, fX10_of 5 i w μ = some (r, μ) ∧ fX11_of 129 i w μ = some (r, μ) := by
  have hS0 := hS
  obtain ⟨h0, h1, h2, h3, h4⟩ := hS0
  unfold fX10_of fX11_of
  by_cases hi : 0 ≤ i ∧ i < μ 6 1
  · by_cases hw : 0 ≤ w ∧ w ≤ 4
    · by_cases hw4 : w = 4
      · refine ⟨zsm (μ 11) i.toNat, ?_, ?_⟩
        · simp (disch := omega) only [s5_has, zb_t, s5_minute hG hS hi.1 (Int.le_of_lt hi.2), if_true, if_false, not_true_eq_false, not_false_eq_true, zcall_ok, zjn_ok, zbl_0, zbl_1, zu_eq, zu_a, zu_j, if_pos, if_neg, ge_iff_le, gt_iff_lt, ne_eq, Int.cast_ofNat_Int, Int.add_zero, Int.zero_add, Int.reduceAdd, Int.reduceSub, Int.reduceMul, Int.reduceNeg, gf_5, pf_5, vc_5, gf_6, pf_6, vc_6, g_5_0 hG, g_5_1 hG, g_5_2 hG, g_5_3 hG, g_5_4 hG, g_5_5 hG, g_5_6 hG, g_6_0 hG]
        · simp (disch := omega) only [s11_isSaying hS, s11_within, zb_t, s11_minuteOf hG hS hi.1 (Int.le_of_lt hi.2), if_true, if_false, not_true_eq_false, not_false_eq_true, zcall_ok, zjn_ok, zbl_0, zbl_1, zu_eq, zu_a, zu_j, if_pos, if_neg, ge_iff_le, gt_iff_lt, ne_eq, Int.cast_ofNat_Int, Int.add_zero, Int.zero_add, Int.reduceAdd, Int.reduceSub, Int.reduceMul, Int.reduceNeg, gf_129, pf_129, vc_129, g_129_0 hG, g_129_1 hG, g_129_2 hG, g_129_3 hG, g_129_7 hG, g_129_10 hG, g_129_11 hG, g_129_12 hG, g_129_13 hG, g_129_19 hG, g_129_21 hG, g_129_22 hG, g_129_23 hG, g_129_24 hG, g_129_25 hG, g_129_26 hG, g_129_28 hG, g_129_29 hG, g_129_33 hG, g_129_34 hG, g_129_35 hG, g_129_36 hG]
      · refine ⟨μ (8 + w) i, ?_, ?_⟩
        · simp (disch := omega) only [s5_has, zb_t, s5_part hG h1, if_true, if_false, not_true_eq_false, not_false_eq_true, zcall_ok, zjn_ok, zbl_0, zbl_1, zu_eq, zu_a, zu_j, if_pos, if_neg, ge_iff_le, gt_iff_lt, ne_eq, Int.cast_ofNat_Int, Int.add_zero, Int.zero_add, Int.reduceAdd, Int.reduceSub, Int.reduceMul, Int.reduceNeg, gf_5, pf_5, vc_5, gf_6, pf_6, vc_6, g_5_0 hG, g_5_1 hG, g_5_2 hG, g_5_3 hG, g_5_4 hG, g_5_5 hG, g_5_6 hG, g_6_0 hG]
        · simp (disch := omega) only [s11_isSaying hS, s11_within, zb_t, zw32_id, h3 w i, if_true, if_false, not_true_eq_false, not_false_eq_true, zcall_ok, zjn_ok, zbl_0, zbl_1, zu_eq, zu_a, zu_j, if_pos, if_neg, ge_iff_le, gt_iff_lt, ne_eq, Int.cast_ofNat_Int, Int.add_zero, Int.zero_add, Int.reduceAdd, Int.reduceSub, Int.reduceMul, Int.reduceNeg, gf_129, pf_129, vc_129, al_130, as_130, ln_130, g_129_0 hG, g_129_1 hG, g_129_2 hG, g_129_3 hG, g_129_7 hG, g_129_10 hG, g_129_11 hG, g_129_12 hG, g_129_13 hG, g_129_19 hG, g_129_21 hG, g_129_22 hG, g_129_23 hG, g_129_24 hG, g_129_25 hG, g_129_26 hG, g_129_28 hG, g_129_29 hG, g_129_33 hG, g_129_34 hG, g_129_35 hG, g_129_36 hG]
    · refine ⟨-1, ?_, ?_⟩
      · by_cases hw0 : w < 0
        · simp (disch := omega) only [s5_has, zb_t, if_true, if_false, not_true_eq_false, not_false_eq_true, zcall_ok, zjn_ok, zbl_0, zbl_1, zu_eq, zu_a, zu_j, if_pos, if_neg, ge_iff_le, gt_iff_lt, ne_eq, Int.cast_ofNat_Int, Int.add_zero, Int.zero_add, Int.reduceAdd, Int.reduceSub, Int.reduceMul, Int.reduceNeg, gf_5, pf_5, vc_5, gf_6, pf_6, vc_6, g_5_0 hG, g_5_1 hG, g_5_2 hG, g_5_3 hG, g_5_4 hG, g_5_5 hG, g_5_6 hG, g_6_0 hG]
        · simp (disch := omega) only [s5_has, zb_t, if_true, if_false, not_true_eq_false, not_false_eq_true, zcall_ok, zjn_ok, zbl_0, zbl_1, zu_eq, zu_a, zu_j, if_pos, if_neg, ge_iff_le, gt_iff_lt, ne_eq, Int.cast_ofNat_Int, Int.add_zero, Int.zero_add, Int.reduceAdd, Int.reduceSub, Int.reduceMul, Int.reduceNeg, gf_5, pf_5, vc_5, gf_6, pf_6, vc_6, g_5_0 hG, g_5_1 hG, g_5_2 hG, g_5_3 hG, g_5_4 hG, g_5_5 hG, g_5_6 hG, g_6_0 hG]
      · simp (disch := omega) only [s11_isSaying hS, s11_within, zb_t, zb_f, if_true, if_false, not_true_eq_false, not_false_eq_true, zcall_ok, zjn_ok, zbl_0, zbl_1, zu_eq, zu_a, zu_j, if_pos, if_neg, ge_iff_le, gt_iff_lt, ne_eq, Int.cast_ofNat_Int, Int.add_zero, Int.zero_add, Int.reduceAdd, Int.reduceSub, Int.reduceMul, Int.reduceNeg, gf_129, pf_129, vc_129, al_130, as_130, ln_130, g_129_0 hG, g_129_1 hG, g_129_2 hG, g_129_3 hG, g_129_7 hG, g_129_10 hG, g_129_11 hG, g_129_12 hG, g_129_13 hG, g_129_19 hG, g_129_21 hG, g_129_22 hG, g_129_23 hG, g_129_24 hG, g_129_25 hG, g_129_26 hG, g_129_28 hG, g_129_29 hG, g_129_33 hG, g_129_34 hG, g_129_35 hG, g_129_36 hG]
  · refine ⟨-1, ?_, ?_⟩
    · simp (disch := omega) only [s5_has, zb_f, if_true, if_false, not_true_eq_false, not_false_eq_true, zcall_ok, zjn_ok, zbl_0, zbl_1, zu_eq, zu_a, zu_j, if_pos, if_neg, ge_iff_le, gt_iff_lt, ne_eq, Int.cast_ofNat_Int, Int.add_zero, Int.zero_add, Int.reduceAdd, Int.reduceSub, Int.reduceMul, Int.reduceNeg, gf_5, pf_5, vc_5, gf_6, pf_6, vc_6, g_5_0 hG, g_5_1 hG, g_5_2 hG, g_5_3 hG, g_5_4 hG, g_5_5 hG, g_5_6 hG, g_6_0 hG]
    · simp (disch := omega) only [s11_isSaying hS, s11_within, zb_f, if_true, if_false, not_true_eq_false, not_false_eq_true, zcall_ok, zjn_ok, zbl_0, zbl_1, zu_eq, zu_a, zu_j, if_pos, if_neg, ge_iff_le, gt_iff_lt, ne_eq, Int.cast_ofNat_Int, Int.add_zero, Int.zero_add, Int.reduceAdd, Int.reduceSub, Int.reduceMul, Int.reduceNeg, gf_129, pf_129, vc_129, g_129_0 hG, g_129_1 hG, g_129_2 hG, g_129_3 hG, g_129_7 hG, g_129_10 hG, g_129_11 hG, g_129_12 hG, g_129_13 hG, g_129_19 hG, g_129_21 hG, g_129_22 hG, g_129_23 hG, g_129_24 hG, g_129_25 hG, g_129_26 hG, g_129_28 hG, g_129_29 hG, g_129_33 hG, g_129_34 hG, g_129_35 hG, g_129_36 hG]
theorem s5_change {μ : zMem} (hG : zG0 μ) (hN : μ 6 1 ≤ 16) {i w v : Int} (hi : 0 ≤ i ∧ i < μ 6 1) (hw : 0 ≤ w ∧ w < 4) (hf : zfit w v) : fX5_change 6 i w v μ = some (0, zupd μ (8 + w) i v) := by
  unfold fX5_change
  simp (disch := omega) only [s5_has, zb_t, (s5_fits hG w v).1 hf, g_7 hG, as8, if_true, if_false, not_true_eq_false, not_false_eq_true, zcall_ok, zjn_ok, zbl_0, zbl_1, zu_eq, zu_a, zu_j, if_pos, if_neg, ge_iff_le, gt_iff_lt, ne_eq, Int.cast_ofNat_Int, Int.add_zero, Int.zero_add, Int.reduceAdd, Int.reduceSub, Int.reduceMul, Int.reduceNeg, gf_6, pf_6, vc_6, al_7, ln_7, g_6_0 hG, g_7_0 hG, g_7_1 hG, g_7_2 hG, g_7_3 hG]
/-- the changes, on both sides -/
def zGH (μ : zMem) : Prop := 0 ≤ μ 12 1 ∧ μ 12 1 ≤ μ 12 2 ∧ μ 12 2 ≤ 40 ∧ μ 129 5 = μ 12 1 ∧ μ 129 4 = μ 12 2 ∧ ∀ k : Int, 0 ≤ k → k < μ 12 2 → (0 ≤ μ 14 k ∧ μ 14 k < μ 6 1) ∧ (0 ≤ μ 15 k ∧ μ 15 k < 4) ∧ zfit (μ 15 k) (μ 16 k) ∧ zfit (μ 15 k) (μ 17 k) ∧ μ 131 k = 16 * μ 15 k + μ 14 k ∧ μ 132 k = μ 16 k ∧ μ 133 k = μ 17 k
theorem zcpm_in {μ : zMem} {a i b j n a' j' : Int} (h : a' = b) (h1 : j ≤ j') (h2 : j' < j + n) : zcpm μ a i b j n a' j' = μ a (i + (j' - j)) := by unfold zcpm; rw [if_pos ⟨h, h1, h2⟩]
theorem zcpm_a {μ : zMem} {a i b j n a' j' : Int} (h : ¬ a' = b) : zcpm μ a i b j n a' j' = μ a' j' := by unfold zcpm; rw [if_neg (fun q => h q.1)]
theorem zcpm_o {μ : zMem} {a i b j n a' j' : Int} (h : ¬ (j ≤ j' ∧ j' < j + n)) : zcpm μ a i b j n a' j' = μ a' j' := by unfold zcpm; rw [if_neg (fun q => h q.2)]
theorem cp_14 {r i j c : Int} {μ : zMem} {K : zMem → zRs} (h0 : 14 ≤ r) (h1 : r ≤ 17) (h3 : 0 ≤ i) (h4 : 0 ≤ j) (h5 : 0 ≤ c) (h6 : i + c ≤ 40) (h7 : j + c ≤ 40) : zcopy 20 r i r j c μ K = K (zcpm μ r i r j c) := by
  rcases (show r = 14 ∨ r = 15 ∨ r = 16 ∨ r = 17 by omega) with rfl | rfl | rfl | rfl <;> exact zcopy_ok (n := 40) (n2 := 40) rfl rfl (by decide) (by decide) h3 h4 h5 h6 h7
def zdrp (μ : zMem) : zMem := zupd (zcpm (zcpm (zcpm (zcpm μ 14 1 14 0 39) 15 1 15 0 39) 16 1 16 0 39) 17 1 17 0 39) 12 1 39
theorem s2_dropFirst {μ : zMem} (hG : zG0 μ) : fX2_dropFirst 12 μ = some (0, zdrp μ) := by
  unfold fX2_dropFirst zdrp
  simp (disch := omega) only [if_true, if_false, not_true_eq_false, not_false_eq_true, zcall_ok, zjn_ok, zbl_0, zbl_1, zu_eq, zu_a, zu_j, if_pos, if_neg, ge_iff_le, gt_iff_lt, ne_eq, Int.cast_ofNat_Int, Int.add_zero, Int.zero_add, Int.reduceAdd, Int.reduceSub, Int.reduceMul, Int.reduceNeg, gf_12, pf_12, vc_12, al_13, ln_13, g_12_0 hG, g_13_0 hG, g_13_1 hG, g_13_2 hG, g_13_3 hG]
  rw [show (1000000 : Nat) = 999995 + 1 + 1 + 1 + 1 + 1 from rfl, zlp_S]
  simp (disch := omega) only [cp_14, zw32_id, if_true, if_false, not_true_eq_false, not_false_eq_true, zcall_ok, zjn_ok, zbl_0, zbl_1, zu_eq, zu_a, zu_j, if_pos, if_neg, ge_iff_le, gt_iff_lt, ne_eq, Int.cast_ofNat_Int, Int.add_zero, Int.zero_add, Int.reduceAdd, Int.reduceSub, Int.reduceMul, Int.reduceNeg, gf_12, pf_12, vc_12, al_13, ln_13, g_12_0 hG, g_13_0 hG, g_13_1 hG, g_13_2 hG, g_13_3 hG]
  rw [zlp_S]
  simp (disch := omega) only [zcpm_a, cp_14, zw32_id, if_true, if_false, not_true_eq_false, not_false_eq_true, zcall_ok, zjn_ok, zbl_0, zbl_1, zu_eq, zu_a, zu_j, if_pos, if_neg, ge_iff_le, gt_iff_lt, ne_eq, Int.cast_ofNat_Int, Int.add_zero, Int.zero_add, Int.reduceAdd, Int.reduceSub, Int.reduceMul, Int.reduceNeg, gf_12, pf_12, vc_12, al_13, ln_13, g_12_0 hG, g_13_0 hG, g_13_1 hG, g_13_2 hG, g_13_3 hG]
  rw [zlp_S]
  simp (disch := omega) only [zcpm_a, cp_14, zw32_id, if_true, if_false, not_true_eq_false, not_false_eq_true, zcall_ok, zjn_ok, zbl_0, zbl_1, zu_eq, zu_a, zu_j, if_pos, if_neg, ge_iff_le, gt_iff_lt, ne_eq, Int.cast_ofNat_Int, Int.add_zero, Int.zero_add, Int.reduceAdd, Int.reduceSub, Int.reduceMul, Int.reduceNeg, gf_12, pf_12, vc_12, al_13, ln_13, g_12_0 hG, g_13_0 hG, g_13_1 hG, g_13_2 hG, g_13_3 hG]
  rw [zlp_S]
  simp (disch := omega) only [zcpm_a, cp_14, zw32_id, if_true, if_false, not_true_eq_false, not_false_eq_true, zcall_ok, zjn_ok, zbl_0, zbl_1, zu_eq, zu_a, zu_j, if_pos, if_neg, ge_iff_le, gt_iff_lt, ne_eq, Int.cast_ofNat_Int, Int.add_zero, Int.zero_add, Int.reduceAdd, Int.reduceSub, Int.reduceMul, Int.reduceNeg, gf_12, pf_12, vc_12, al_13, ln_13, g_12_0 hG, g_13_0 hG, g_13_1 hG, g_13_2 hG, g_13_3 hG]
  rw [zlp_S]
  simp (disch := omega) only [zcpm_a, if_true, if_false, not_true_eq_false, not_false_eq_true, zcall_ok, zjn_ok, zbl_0, zbl_1, zu_eq, zu_a, zu_j, if_pos, if_neg, ge_iff_le, gt_iff_lt, ne_eq, Int.cast_ofNat_Int, Int.add_zero, Int.zero_add, Int.reduceAdd, Int.reduceSub, Int.reduceMul, Int.reduceNeg, gf_12, pf_12, vc_12, al_13, ln_13, g_12_0 hG, g_13_0 hG, g_13_1 hG, g_13_2 hG, g_13_3 hG]
/-- behind a change noted: d places as they were (from one on, where there were forty), then the new one -/
theorem s2_note {μ : zMem} (hG : zG0 μ) (h0 : 0 ≤ μ 12 1) (h1 : μ 12 1 ≤ 40) (s w b a : Int) : ∃ μ1, fX2_note 12 s w b a μ = some (0, μ1) ∧ μ1 12 1 = (if μ 12 1 < 40 then μ 12 1 else 39) + 1 ∧ μ1 12 2 = (if μ 12 1 < 40 then μ 12 1 else 39) + 1 ∧
    (∀ r k : Int, 14 ≤ r → r ≤ 17 → 0 ≤ k → k < (if μ 12 1 < 40 then μ 12 1 else 39) → μ1 r k = μ r (k + if μ 12 1 < 40 then 0 else 1)) ∧ μ1 14 (if μ 12 1 < 40 then μ 12 1 else 39) = s ∧ μ1 15 (if μ 12 1 < 40 then μ 12 1 else 39) = w ∧ μ1 16 (if μ 12 1 < 40 then μ 12 1 else 39) = b ∧ μ1 17 (if μ 12 1 < 40 then μ 12 1 else 39) = a := by
  unfold fX2_note
  by_cases h : μ 12 1 < 40
  · simp only [if_pos h]
    refine ⟨zupd (zupd (zupd (zupd (zupd (zupd μ 14 (μ 12 1) s) 15 (μ 12 1) w) 16 (μ 12 1) b) 17 (μ 12 1) a) 12 1 (μ 12 1 + 1)) 12 2 (μ 12 1 + 1), ?_, ?_, ?_, ?_, ?_, ?_, ?_, ?_⟩
    · simp (disch := omega) only [zw32_id, if_true, if_false, not_true_eq_false, not_false_eq_true, zcall_ok, zjn_ok, zbl_0, zbl_1, zu_eq, zu_a, zu_j, if_pos, if_neg, ge_iff_le, gt_iff_lt, ne_eq, Int.cast_ofNat_Int, Int.add_zero, Int.zero_add, Int.reduceAdd, Int.reduceSub, Int.reduceMul, Int.reduceNeg, gf_12, pf_12, vc_12, al_13, ln_13, al_14, as_14, ln_14, al_15, as_15, ln_15, al_16, as_16, ln_16, al_17, as_17, ln_17, g_12_0 hG, g_13_0 hG, g_13_1 hG, g_13_2 hG, g_13_3 hG]
    · simp (disch := omega) only [if_true, if_false, not_true_eq_false, not_false_eq_true, zcall_ok, zjn_ok, zbl_0, zbl_1, zu_eq, zu_a, zu_j, if_pos, if_neg, ge_iff_le, gt_iff_lt, ne_eq, Int.cast_ofNat_Int, Int.add_zero, Int.zero_add, Int.reduceAdd, Int.reduceSub, Int.reduceMul, Int.reduceNeg, gf_12, pf_12, vc_12, g_12_0 hG]
    · simp (disch := omega) only [if_true, if_false, not_true_eq_false, not_false_eq_true, zcall_ok, zjn_ok, zbl_0, zbl_1, zu_eq, zu_a, zu_j, if_pos, if_neg, ge_iff_le, gt_iff_lt, ne_eq, Int.cast_ofNat_Int, Int.add_zero, Int.zero_add, Int.reduceAdd, Int.reduceSub, Int.reduceMul, Int.reduceNeg, gf_12, pf_12, vc_12, g_12_0 hG]
    · intro r k h14 h17 hk0 hk
      rw [Int.add_zero]
      simp (disch := omega) only [if_true, if_false, not_true_eq_false, not_false_eq_true, zcall_ok, zjn_ok, zbl_0, zbl_1, zu_eq, zu_a, zu_j, if_pos, if_neg, ge_iff_le, gt_iff_lt, ne_eq, Int.cast_ofNat_Int, Int.add_zero, Int.zero_add, Int.reduceAdd, Int.reduceSub, Int.reduceMul, Int.reduceNeg, gf_12, pf_12, vc_12, g_12_0 hG]
    · simp (disch := omega) only [if_true, if_false, not_true_eq_false, not_false_eq_true, zcall_ok, zjn_ok, zbl_0, zbl_1, zu_eq, zu_a, zu_j, if_pos, if_neg, ge_iff_le, gt_iff_lt, ne_eq, Int.cast_ofNat_Int, Int.add_zero, Int.zero_add, Int.reduceAdd, Int.reduceSub, Int.reduceMul, Int.reduceNeg, gf_12, pf_12, vc_12, g_12_0 hG]
    · simp (disch := omega) only [if_true, if_false, not_true_eq_false, not_false_eq_true, zcall_ok, zjn_ok, zbl_0, zbl_1, zu_eq, zu_a, zu_j, if_pos, if_neg, ge_iff_le, gt_iff_lt, ne_eq, Int.cast_ofNat_Int, Int.add_zero, Int.zero_add, Int.reduceAdd, Int.reduceSub, Int.reduceMul, Int.reduceNeg, gf_12, pf_12, vc_12, g_12_0 hG]
    · simp (disch := omega) only [if_true, if_false, not_true_eq_false, not_false_eq_true, zcall_ok, zjn_ok, zbl_0, zbl_1, zu_eq, zu_a, zu_j, if_pos, if_neg, ge_iff_le, gt_iff_lt, ne_eq, Int.cast_ofNat_Int, Int.add_zero, Int.zero_add, Int.reduceAdd, Int.reduceSub, Int.reduceMul, Int.reduceNeg, gf_12, pf_12, vc_12, g_12_0 hG]
    · simp (disch := omega) only [if_true, if_false, not_true_eq_false, not_false_eq_true, zcall_ok, zjn_ok, zbl_0, zbl_1, zu_eq, zu_a, zu_j, if_pos, if_neg, ge_iff_le, gt_iff_lt, ne_eq, Int.cast_ofNat_Int, Int.add_zero, Int.zero_add, Int.reduceAdd, Int.reduceSub, Int.reduceMul, Int.reduceNeg, gf_12, pf_12, vc_12, g_12_0 hG]
  · simp only [if_neg h]
    have e : fX2_dropFirst 12 μ = _ := s2_dropFirst hG
    have d1 : zdrp μ 12 1 = 39 := by unfold zdrp; simp (disch := omega) only [if_true, if_false, not_true_eq_false, not_false_eq_true, zcall_ok, zjn_ok, zbl_0, zbl_1, zu_eq, zu_a, zu_j, if_pos, if_neg, ge_iff_le, gt_iff_lt, ne_eq, Int.cast_ofNat_Int, Int.add_zero, Int.zero_add, Int.reduceAdd, Int.reduceSub, Int.reduceMul, Int.reduceNeg, gf_12, pf_12, vc_12, g_12_0 hG]
    have d0 : zdrp μ 12 0 = 13 := by unfold zdrp; simp (disch := omega) only [zcpm_a, if_true, if_false, not_true_eq_false, not_false_eq_true, zcall_ok, zjn_ok, zbl_0, zbl_1, zu_eq, zu_a, zu_j, if_pos, if_neg, ge_iff_le, gt_iff_lt, ne_eq, Int.cast_ofNat_Int, Int.add_zero, Int.zero_add, Int.reduceAdd, Int.reduceSub, Int.reduceMul, Int.reduceNeg, gf_12, pf_12, vc_12, g_12_0 hG]
    have d3 : ∀ j : Int, zdrp μ 13 j = μ 13 j := by intro j; unfold zdrp; simp (disch := omega) only [zcpm_a, if_true, if_false, not_true_eq_false, not_false_eq_true, zcall_ok, zjn_ok, zbl_0, zbl_1, zu_eq, zu_a, zu_j, if_pos, if_neg, ge_iff_le, gt_iff_lt, ne_eq, Int.cast_ofNat_Int, Int.add_zero, Int.zero_add, Int.reduceAdd, Int.reduceSub, Int.reduceMul, Int.reduceNeg, gf_12, pf_12, vc_12]
    refine ⟨zupd (zupd (zupd (zupd (zupd (zupd (zdrp μ) 14 39 s) 15 39 w) 16 39 b) 17 39 a) 12 1 40) 12 2 40, ?_, ?_, ?_, ?_, ?_, ?_, ?_, ?_⟩
    · simp (disch := omega) only [zw32_id, e, d1, d0, d3, if_true, if_false, not_true_eq_false, not_false_eq_true, zcall_ok, zjn_ok, zbl_0, zbl_1, zu_eq, zu_a, zu_j, if_pos, if_neg, ge_iff_le, gt_iff_lt, ne_eq, Int.cast_ofNat_Int, Int.add_zero, Int.zero_add, Int.reduceAdd, Int.reduceSub, Int.reduceMul, Int.reduceNeg, gf_12, pf_12, vc_12, al_13, ln_13, al_14, as_14, ln_14, al_15, as_15, ln_15, al_16, as_16, ln_16, al_17, as_17, ln_17, g_12_0 hG, g_13_0 hG, g_13_1 hG, g_13_2 hG, g_13_3 hG]
    · simp (disch := omega) only [if_true, if_false, not_true_eq_false, not_false_eq_true, zcall_ok, zjn_ok, zbl_0, zbl_1, zu_eq, zu_a, zu_j, if_pos, if_neg, ge_iff_le, gt_iff_lt, ne_eq, Int.cast_ofNat_Int, Int.add_zero, Int.zero_add, Int.reduceAdd, Int.reduceSub, Int.reduceMul, Int.reduceNeg, gf_12, pf_12, vc_12, g_12_0 hG]
    · simp (disch := omega) only [if_true, if_false, not_true_eq_false, not_false_eq_true, zcall_ok, zjn_ok, zbl_0, zbl_1, zu_eq, zu_a, zu_j, if_pos, if_neg, ge_iff_le, gt_iff_lt, ne_eq, Int.cast_ofNat_Int, Int.add_zero, Int.zero_add, Int.reduceAdd, Int.reduceSub, Int.reduceMul, Int.reduceNeg, gf_12, pf_12, vc_12, g_12_0 hG]
    · intro r k h14 h17 hk0 hk
      have : zdrp μ r k = μ r (k + 1) := by
        unfold zdrp
        rcases (show r = 14 ∨ r = 15 ∨ r = 16 ∨ r = 17 by omega) with rfl | rfl | rfl | rfl <;> simp (disch := omega) only [zu_a, zcpm_a, zcpm_in] <;> congr 1 <;> omega
      simp (disch := omega) only [this, if_true, if_false, not_true_eq_false, not_false_eq_true, zcall_ok, zjn_ok, zbl_0, zbl_1, zu_eq, zu_a, zu_j, if_pos, if_neg, ge_iff_le, gt_iff_lt, ne_eq, Int.cast_ofNat_Int, Int.add_zero, Int.zero_add, Int.reduceAdd, Int.reduceSub, Int.reduceMul, Int.reduceNeg, gf_12, pf_12, vc_12, g_12_0 hG]
    · simp (disch := omega) only [if_true, if_false, not_true_eq_false, not_false_eq_true, zcall_ok, zjn_ok, zbl_0, zbl_1, zu_eq, zu_a, zu_j, if_pos, if_neg, ge_iff_le, gt_iff_lt, ne_eq, Int.cast_ofNat_Int, Int.add_zero, Int.zero_add, Int.reduceAdd, Int.reduceSub, Int.reduceMul, Int.reduceNeg, gf_12, pf_12, vc_12, g_12_0 hG]
    · simp (disch := omega) only [if_true, if_false, not_true_eq_false, not_false_eq_true, zcall_ok, zjn_ok, zbl_0, zbl_1, zu_eq, zu_a, zu_j, if_pos, if_neg, ge_iff_le, gt_iff_lt, ne_eq, Int.cast_ofNat_Int, Int.add_zero, Int.zero_add, Int.reduceAdd, Int.reduceSub, Int.reduceMul, Int.reduceNeg, gf_12, pf_12, vc_12, g_12_0 hG]
    · simp (disch := omega) only [if_true, if_false, not_true_eq_false, not_false_eq_true, zcall_ok, zjn_ok, zbl_0, zbl_1, zu_eq, zu_a, zu_j, if_pos, if_neg, ge_iff_le, gt_iff_lt, ne_eq, Int.cast_ofNat_Int, Int.add_zero, Int.zero_add, Int.reduceAdd, Int.reduceSub, Int.reduceMul, Int.reduceNeg, gf_12, pf_12, vc_12, g_12_0 hG]
    · simp (disch := omega) only [if_true, if_false, not_true_eq_false, not_false_eq_true, zcall_ok, zjn_ok, zbl_0, zbl_1, zu_eq, zu_a, zu_j, if_pos, if_neg, ge_iff_le, gt_iff_lt, ne_eq, Int.cast_ofNat_Int, Int.add_zero, Int.zero_add, Int.reduceAdd, Int.reduceSub, Int.reduceMul, Int.reduceNeg, gf_12, pf_12, vc_12, g_12_0 hG]
