theorem zor_0 {v : Int} (h0 : -2147483648 ≤ v) (h1 : v < 2147483648) : zor v 0 = v := by
  unfold zor
  rw [show Int32.ofInt 0 = 0 from rfl, Int32.or_zero, Int32.toInt_ofInt]
  have : Int.bmod v (2 ^ 32) = zw32 v := zw32_bmod v
  exact this.trans (zw32_id h0 h1)
theorem zor_in (x y : Int) : -2147483648 ≤ zor x y ∧ zor x y < 2147483648 := by
  unfold zor
  have h1 := Int32.le_toInt (Int32.ofInt x ||| Int32.ofInt y)
  have h2 := Int32.toInt_lt (Int32.ofInt x ||| Int32.ofInt y)
  exact ⟨by simpa using h1, by simpa using h2⟩
def zbt (F : Int → Int) : Nat → Int
  | 0 => 0
  | n + 1 => if F n = 1 then zor (zbt F n) (zshl 1 n) else zbt F n
theorem zbt_t {F : Int → Int} {n : Nat} (h : F n = 1) : zbt F (n + 1) = zor (zbt F n) (zshl 1 n) := if_pos h
theorem zbt_f {F : Int → Int} {n : Nat} (h : ¬ F n = 1) : zbt F (n + 1) = zbt F n := if_neg h
theorem zbt_in (F : Int → Int) : ∀ n : Nat, -2147483648 ≤ zbt F n ∧ zbt F n < 2147483648
  | 0 => by simp [zbt]
  | n + 1 => by
    unfold zbt
    split
    · exact zor_in _ _
    · exact zbt_in F n
theorem op_only {μ : zMem} (hG : zG0 μ) (hS : zGS μ) (hP : zGP μ) : ∃ r, fX10_only 5 μ = some (r, μ) ∧ fX11_only 129 μ = some (r, μ) := by
  obtain ⟨h0, h1, h2, -⟩ := hS
  obtain ⟨G, hGG⟩ : ∃ G : Int → Int → Int, ∀ x p, G x p = zb (zhas μ p x) := ⟨fun x p => zb (zhas μ p x), fun _ _ => rfl⟩
  obtain ⟨F, hF⟩ : ∃ F : Int → Int, ∀ x, F x = zsm (G x) (μ 34 3).toNat := ⟨fun x => zsm (G x) (μ 34 3).toNat, fun _ => rfl⟩
  have hc : ∀ x, fX1_papersWith 34 x μ = some (F x, μ) := fun x => by rw [hF]; exact s1_papersWith hG hP x (hGG x)
  have hr : ∀ x, fX11_hadBy 129 x μ = some (F x, μ) := fun x => by rw [hF]; exact s11_hadBy hG hP x (hGG x)
  refine ⟨zbt F (μ 6 1).toNat, ?_, ?_⟩
  · have key : fX1_onlyOnce 34 μ = some (zbt F (μ 6 1).toNat, μ) := by
      unfold fX1_onlyOnce fX5_size
      refine zlp_meas (fun k (f : Int → Int → zMem → zRs) => ∀ (acc : Int) (n : Nat), (n : Int) ≤ μ 6 1 → μ 6 1 - n < k → acc = zbt F n → f acc (n : Int) μ = some (zbt F (μ 6 1).toNat, μ)) ?_ ?_ 1000000 0 0 (by omega) (by omega) rfl
      · intro acc n hn hk _
        omega
      · intro k f ih acc n hn hk hacc
        by_cases hi : (n : Int) = μ 6 1
        · simp (disch := omega) only [↓zcall_ok, zcall_ok, ↓zjn_ok, zjn_ok, ↓zbl_0, zbl_0, ↓zbl_1, zbl_1, ↓if_pos, if_pos, ↓if_neg, if_neg, ↓zb_ite, zb_ite, ↓zb_itn, zb_itn, ↓gf_6, gf_6, ↓pf_6, pf_6, ↓vc_6, vc_6, ↓gf_34, gf_34, ↓pf_34, pf_34, ↓vc_34, vc_34, if_true, if_false, not_true_eq_false, not_false_eq_true, zu_eq, zu_a, zu_j, ge_iff_le, gt_iff_lt, ne_eq, Int.cast_ofNat_Int, Int.add_zero, Int.zero_add, Int.reduceAdd, Int.reduceSub, Int.reduceMul, Int.reduceNeg, ↓gq_6_0 hG, ↓gq_34_0 hG, ↓gq_34_1 hG, ↓gq_34_2 hG, g_6_0 hG, g_34_0 hG, g_34_1 hG, g_34_2 hG]
          rw [hacc, ← hi]
          rfl
        · have hh := ih (zbt F (n + 1)) (n + 1) (by omega) (by omega) rfl
          have hup : zw32 ((n : Int) + 1) = ((n + 1 : Nat) : Int) := by rw [zw32_id (by omega) (by omega)]; omega
          subst hacc
          by_cases hq : F n = 1
          · rw [zbt_t hq] at hh
            simp (disch := omega) only [↓(vq_34 (hc n)), hup, ↓zcall_ok, zcall_ok, ↓zjn_ok, zjn_ok, ↓zbl_0, zbl_0, ↓zbl_1, zbl_1, ↓if_pos, if_pos, ↓if_neg, if_neg, ↓zb_ite, zb_ite, ↓zb_itn, zb_itn, ↓gf_6, gf_6, ↓pf_6, pf_6, ↓vc_6, vc_6, ↓gf_34, gf_34, ↓pf_34, pf_34, ↓vc_34, vc_34, if_true, if_false, not_true_eq_false, not_false_eq_true, zu_eq, zu_a, zu_j, ge_iff_le, gt_iff_lt, ne_eq, Int.cast_ofNat_Int, Int.add_zero, Int.zero_add, Int.reduceAdd, Int.reduceSub, Int.reduceMul, Int.reduceNeg, ↓gq_6_0 hG, ↓gq_34_0 hG, ↓gq_34_1 hG, ↓gq_34_2 hG, g_6_0 hG, g_34_0 hG, g_34_1 hG, g_34_2 hG]
            exact hh
          · rw [zbt_f hq] at hh
            simp (disch := omega) only [↓(vq_34 (hc n)), hup, ↓zcall_ok, zcall_ok, ↓zjn_ok, zjn_ok, ↓zbl_0, zbl_0, ↓zbl_1, zbl_1, ↓if_pos, if_pos, ↓if_neg, if_neg, ↓zb_ite, zb_ite, ↓zb_itn, zb_itn, ↓gf_6, gf_6, ↓pf_6, pf_6, ↓vc_6, vc_6, ↓gf_34, gf_34, ↓pf_34, pf_34, ↓vc_34, vc_34, if_true, if_false, not_true_eq_false, not_false_eq_true, zu_eq, zu_a, zu_j, ge_iff_le, gt_iff_lt, ne_eq, Int.cast_ofNat_Int, Int.add_zero, Int.zero_add, Int.reduceAdd, Int.reduceSub, Int.reduceMul, Int.reduceNeg, ↓gq_6_0 hG, ↓gq_34_0 hG, ↓gq_34_1 hG, ↓gq_34_2 hG, g_6_0 hG, g_34_0 hG, g_34_1 hG, g_34_2 hG]
            exact hh
    unfold fX10_only
    simp (disch := omega) only [↓(vq_34 key), ↓zcall_ok, zcall_ok, ↓zjn_ok, zjn_ok, ↓zbl_0, zbl_0, ↓zbl_1, zbl_1, ↓if_pos, if_pos, ↓if_neg, if_neg, ↓zb_ite, zb_ite, ↓zb_itn, zb_itn, ↓gf_5, gf_5, ↓pf_5, pf_5, ↓vc_5, vc_5, if_true, if_false, not_true_eq_false, not_false_eq_true, zu_eq, zu_a, zu_j, ge_iff_le, gt_iff_lt, ne_eq, Int.cast_ofNat_Int, Int.add_zero, Int.zero_add, Int.reduceAdd, Int.reduceSub, Int.reduceMul, Int.reduceNeg, ↓gq_5_0 hG, ↓gq_5_1 hG, ↓gq_5_2 hG, ↓gq_5_3 hG, ↓gq_5_4 hG, ↓gq_5_5 hG, ↓gq_5_6 hG, g_5_0 hG, g_5_1 hG, g_5_2 hG, g_5_3 hG, g_5_4 hG, g_5_5 hG, g_5_6 hG]
  · unfold fX11_only
    refine zlp_meas (fun k (f : Int → Int → zMem → zRs) => ∀ (acc : Int) (n : Nat), (n : Int) ≤ μ 6 1 → μ 6 1 - n < k → acc = zbt F n → f acc (n : Int) μ = some (zbt F (μ 6 1).toNat, μ)) ?_ ?_ 1000000 0 0 (by omega) (by omega) rfl
    · intro acc n hn hk _
      omega
    · intro k f ih acc n hn hk hacc
      by_cases hi : (n : Int) = μ 6 1
      · simp (disch := omega) only [h2, ↓zcall_ok, zcall_ok, ↓zjn_ok, zjn_ok, ↓zbl_0, zbl_0, ↓zbl_1, zbl_1, ↓if_pos, if_pos, ↓if_neg, if_neg, ↓zb_ite, zb_ite, ↓zb_itn, zb_itn, ↓gf_129, gf_129, ↓pf_129, pf_129, ↓vc_129, vc_129, if_true, if_false, not_true_eq_false, not_false_eq_true, zu_eq, zu_a, zu_j, ge_iff_le, gt_iff_lt, ne_eq, Int.cast_ofNat_Int, Int.add_zero, Int.zero_add, Int.reduceAdd, Int.reduceSub, Int.reduceMul, Int.reduceNeg, ↓gq_129_0 hG, ↓gq_129_1 hG, ↓gq_129_2 hG, ↓gq_129_3 hG, ↓gq_129_7 hG, ↓gq_129_10 hG, ↓gq_129_11 hG, ↓gq_129_12 hG, ↓gq_129_13 hG, ↓gq_129_19 hG, ↓gq_129_21 hG, ↓gq_129_22 hG, ↓gq_129_23 hG, ↓gq_129_24 hG, ↓gq_129_25 hG, ↓gq_129_26 hG, ↓gq_129_28 hG, ↓gq_129_29 hG, ↓gq_129_33 hG, ↓gq_129_34 hG, ↓gq_129_35 hG, ↓gq_129_36 hG, g_129_0 hG, g_129_1 hG, g_129_2 hG, g_129_3 hG, g_129_7 hG, g_129_10 hG, g_129_11 hG, g_129_12 hG, g_129_13 hG, g_129_19 hG, g_129_21 hG, g_129_22 hG, g_129_23 hG, g_129_24 hG, g_129_25 hG, g_129_26 hG, g_129_28 hG, g_129_29 hG, g_129_33 hG, g_129_34 hG, g_129_35 hG, g_129_36 hG]
        rw [hacc, ← hi]
        rfl
      · have hh := ih (zbt F (n + 1)) (n + 1) (by omega) (by omega) rfl
        have hin := zbt_in F n
        have hup : zw32 ((n : Int) + 1) = ((n + 1 : Nat) : Int) := by rw [zw32_id (by omega) (by omega)]; omega
        subst hacc
        by_cases hq : F n = 1
        · rw [zbt_t hq] at hh
          simp (disch := omega) only [h2, ↓(vq_129 (hr n)), hup, ↓zcall_ok, zcall_ok, ↓zjn_ok, zjn_ok, ↓zbl_0, zbl_0, ↓zbl_1, zbl_1, ↓if_pos, if_pos, ↓if_neg, if_neg, ↓zb_ite, zb_ite, ↓zb_itn, zb_itn, ↓gf_129, gf_129, ↓pf_129, pf_129, ↓vc_129, vc_129, if_true, if_false, not_true_eq_false, not_false_eq_true, zu_eq, zu_a, zu_j, ge_iff_le, gt_iff_lt, ne_eq, Int.cast_ofNat_Int, Int.add_zero, Int.zero_add, Int.reduceAdd, Int.reduceSub, Int.reduceMul, Int.reduceNeg, ↓gq_129_0 hG, ↓gq_129_1 hG, ↓gq_129_2 hG, ↓gq_129_3 hG, ↓gq_129_7 hG, ↓gq_129_10 hG, ↓gq_129_11 hG, ↓gq_129_12 hG, ↓gq_129_13 hG, ↓gq_129_19 hG, ↓gq_129_21 hG, ↓gq_129_22 hG, ↓gq_129_23 hG, ↓gq_129_24 hG, ↓gq_129_25 hG, ↓gq_129_26 hG, ↓gq_129_28 hG, ↓gq_129_29 hG, ↓gq_129_33 hG, ↓gq_129_34 hG, ↓gq_129_35 hG, ↓gq_129_36 hG, g_129_0 hG, g_129_1 hG, g_129_2 hG, g_129_3 hG, g_129_7 hG, g_129_10 hG, g_129_11 hG, g_129_12 hG, g_129_13 hG, g_129_19 hG, g_129_21 hG, g_129_22 hG, g_129_23 hG, g_129_24 hG, g_129_25 hG, g_129_26 hG, g_129_28 hG, g_129_29 hG, g_129_33 hG, g_129_34 hG, g_129_35 hG, g_129_36 hG]
          exact hh
        · rw [zbt_f hq] at hh
          simp (disch := omega) only [h2, ↓(vq_129 (hr n)), hup, zor_0, ↓zcall_ok, zcall_ok, ↓zjn_ok, zjn_ok, ↓zbl_0, zbl_0, ↓zbl_1, zbl_1, ↓if_pos, if_pos, ↓if_neg, if_neg, ↓zb_ite, zb_ite, ↓zb_itn, zb_itn, ↓gf_129, gf_129, ↓pf_129, pf_129, ↓vc_129, vc_129, if_true, if_false, not_true_eq_false, not_false_eq_true, zu_eq, zu_a, zu_j, ge_iff_le, gt_iff_lt, ne_eq, Int.cast_ofNat_Int, Int.add_zero, Int.zero_add, Int.reduceAdd, Int.reduceSub, Int.reduceMul, Int.reduceNeg, ↓gq_129_0 hG, ↓gq_129_1 hG, ↓gq_129_2 hG, ↓gq_129_3 hG, ↓gq_129_7 hG, ↓gq_129_10 hG, ↓gq_129_11 hG, ↓gq_129_12 hG, ↓gq_129_13 hG, ↓gq_129_19 hG, ↓gq_129_21 hG, ↓gq_129_22 hG, ↓gq_129_23 hG, ↓gq_129_24 hG, ↓gq_129_25 hG, ↓gq_129_26 hG, ↓gq_129_28 hG, ↓gq_129_29 hG, ↓gq_129_33 hG, ↓gq_129_34 hG, ↓gq_129_35 hG, ↓gq_129_36 hG, g_129_0 hG, g_129_1 hG, g_129_2 hG, g_129_3 hG, g_129_7 hG, g_129_10 hG, g_129_11 hG, g_129_12 hG, g_129_13 hG, g_129_19 hG, g_129_21 hG, g_129_22 hG, g_129_23 hG, g_129_24 hG, g_129_25 hG, g_129_26 hG, g_129_28 hG, g_129_29 hG, g_129_33 hG, g_129_34 hG, g_129_35 hG, g_129_36 hG]
          exact hh
