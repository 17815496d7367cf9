theorem zGS_keep {μ μ' : zMem} (h : zGS μ) (k : ∀ a j : Int, ztag a j ∈ [500, 501, 1100, 1106] → μ' a j = μ a j) : zGS μ' := by
  obtain ⟨h0, h1, h2, h3, h4⟩ := h
  have e6 : μ' 6 1 = μ 6 1 := k 6 1 (by rw [tf_6_1]; decide)
  refine ⟨by omega, by omega, by rw [e6, k 129 6 (by rw [tf_129_6]; decide)]; exact h2, fun w i a b c d => ?_, fun w i a b c d => ?_⟩
  · rw [k 130 _ (by rw [tg_130]; decide), k (8 + w) i (by rw [tg8 a b]; decide)]
    exact h3 w i a b c d
  · rw [k (8 + w) i (by rw [tg8 a b]; decide)]
    exact h4 w i a b c (by omega)
theorem zGH_keep {μ μ' : zMem} (h : zGH μ) (k : ∀ a j : Int, ztag a j ∈ [200, 201, 202, 1101, 1102, 1103, 1104, 1105] → μ' a j = μ a j) (hN : μ 6 1 ≤ μ' 6 1) : zGH μ' := by
  obtain ⟨h0, h1, h2, h3, h4, h5⟩ := h
  have e1 : μ' 12 1 = μ 12 1 := k 12 1 (by rw [tf_12_1]; decide)
  have e2 : μ' 12 2 = μ 12 2 := k 12 2 (by rw [tf_12_2]; decide)
  refine ⟨by omega, by omega, by omega, by rw [e1, k 129 5 (by rw [tf_129_5]; decide)]; exact h3, by rw [e2, k 129 4 (by rw [tf_129_4]; decide)]; exact h4, fun i a b => ?_⟩
  rw [k 14 i (by rw [tg_14]; decide), k 15 i (by rw [tg_15]; decide), k 16 i (by rw [tg_16]; decide), k 17 i (by rw [tg_17]; decide), k 131 i (by rw [tg_131]; decide), k 132 i (by rw [tg_132]; decide), k 133 i (by rw [tg_133]; decide)]
  have := h5 i a (by omega)
  exact ⟨⟨this.1.1, by omega⟩, this.2⟩
theorem zfit_w {w v : Int} (h : zfit w v) : 0 ≤ w ∧ w < 4 := by unfold zfit at h; omega
theorem s11_mendA {μ : zMem} {i w v : Int} (hi : 0 ≤ i ∧ i < 16) (hs : fX11_isSaying 129 i μ = some (1, μ)) (hf : zfit w v) : fX11_mend 129 i w v μ = zvc 11 129 (fX11_becomes 129 (16 * w + i) v μ) (fun a b => some (a, b)) := by
  have hw := zfit_w hf
  unfold fX11_mend
  unfold zfit at hf
  rcases hf with ⟨rfl, h⟩ | ⟨rfl, h⟩ | ⟨rfl, h⟩ | ⟨rfl, h⟩ <;> simp (disch := omega) only [hs, vc_129, s11_within, zb_t, zw32_id, if_true, if_false, not_true_eq_false, not_false_eq_true, zcall_ok, zjn_ok, zbl_0, zbl_1, zu_eq, zu_a, zu_j, if_pos, if_neg, ge_iff_le, gt_iff_lt, ne_eq, Int.cast_ofNat_Int, Int.add_zero, Int.zero_add, Int.reduceAdd, Int.reduceSub, Int.reduceMul, Int.reduceNeg, gf_129, pf_129, vc_129]
theorem s11_mendB {μ : zMem} {i w v : Int} (hs : fX11_isSaying 129 i μ = some (1, μ)) (hf : ¬ zfit w v) : fX11_mend 129 i w v μ = some (-1, μ) := by
  unfold fX11_mend
  by_cases hw : 0 ≤ w ∧ w ≤ 3
  · unfold zfit at hf
    rcases (show w = 0 ∨ w = 1 ∨ w = 2 ∨ w = 3 by omega) with rfl | rfl | rfl | rfl <;> simp (disch := omega) only [hs, vc_129, s11_within, zb_t, zb_f, if_true, if_false, not_true_eq_false, not_false_eq_true, zcall_ok, zjn_ok, zbl_0, zbl_1, zu_eq, zu_a, zu_j, if_pos, if_neg, ge_iff_le, gt_iff_lt, ne_eq, Int.cast_ofNat_Int, Int.add_zero, Int.zero_add, Int.reduceAdd, Int.reduceSub, Int.reduceMul, Int.reduceNeg, gf_129, pf_129, vc_129]
  · simp (disch := omega) only [hs, vc_129, s11_within, zb_f, if_true, if_false, not_true_eq_false, not_false_eq_true, zcall_ok, zjn_ok, zbl_0, zbl_1, zu_eq, zu_a, zu_j, if_pos, if_neg, ge_iff_le, gt_iff_lt, ne_eq, Int.cast_ofNat_Int, Int.add_zero, Int.zero_add, Int.reduceAdd, Int.reduceSub, Int.reduceMul, Int.reduceNeg, gf_129, pf_129, vc_129]
theorem s11_mend {μ : zMem} (hS : zGS μ) (i w v : Int) :
    (¬ ((0 ≤ i ∧ i < μ 6 1) ∧ zfit w v) → fX11_mend 129 i w v μ = some (-1, μ)) ∧ ((0 ≤ i ∧ i < μ 6 1) ∧ zfit w v → ∀ r μ', fX11_becomes 129 (16 * w + i) v μ = some (r, μ') → fX11_mend 129 i w v μ = some (r, μ')) := by
  have hN := hS.2.1
  have hs := s11_isSaying hS i
  by_cases hi : 0 ≤ i ∧ i < μ 6 1
  · rw [zb_t (by omega)] at hs
    refine ⟨fun h => s11_mendB hs (fun q => h ⟨hi, q⟩), fun h r μ' hb => ?_⟩
    rw [s11_mendA (by omega) hs h.2, hb, vc_129]
  · rw [zb_f (by omega)] at hs
    refine ⟨fun _ => ?_, fun h => absurd h.1 hi⟩
    unfold fX11_mend
    simp (disch := omega) only [hs, vc_129, if_true, if_false, not_true_eq_false, not_false_eq_true, zcall_ok, zjn_ok, zbl_0, zbl_1, zu_eq, zu_a, zu_j, if_pos, if_neg, ge_iff_le, gt_iff_lt, ne_eq, Int.cast_ofNat_Int, Int.add_zero, Int.zero_add, Int.reduceAdd, Int.reduceSub, Int.reduceMul, Int.reduceNeg, gf_129, pf_129, vc_129]
theorem op_mend {μ : zMem} (hG : zG0 μ) (hS : zGS μ) (hH : zGH μ) (i w v : Int) (hv : -2147483648 ≤ v ∧ v < 2147483648) : ∃ r μ1 μ2, fX10_mend 5 i w v μ = some (r, μ1) ∧ fX11_mend 129 i w v μ1 = some (r, μ2) ∧ zGS μ2 ∧ zGH μ2 ∧ μ2 6 1 = μ 6 1 := by
  have hS0 := hS
  obtain ⟨h0, h1, h2, h3, h4⟩ := hS0
  by_cases hc : (0 ≤ i ∧ i < μ 6 1) ∧ zfit w v
  · obtain ⟨hi, hf⟩ := hc
    have hw := zfit_w hf
    have hms := s11_mend hS i w v
    by_cases he : μ (8 + w) i = v
    · refine ⟨v, μ, μ, ?_, ?_, hS, hH, rfl⟩
      · unfold fX10_mend
        simp (disch := omega) only [s5_has, zb_t, (s5_fits hG w v).1 hf, s5_part hG h1, if_true, if_false, not_true_eq_false, not_false_eq_true, zcall_ok, zjn_ok, zbl_0, zbl_1, zu_eq, zu_a, zu_j, if_pos, if_neg, ge_iff_le, gt_iff_lt, ne_eq, Int.cast_ofNat_Int, Int.add_zero, Int.zero_add, Int.reduceAdd, Int.reduceSub, Int.reduceMul, Int.reduceNeg, gf_5, pf_5, vc_5, gf_6, pf_6, vc_6, g_5_0 hG, g_5_1 hG, g_5_2 hG, g_5_3 hG, g_5_4 hG, g_5_5 hG, g_5_6 hG, g_6_0 hG]
        rw [he]
      · have hb := (s11_becomes hG (by have := hH; unfold zGH at this; omega) (by have := hH; unfold zGH at this; omega) (at_ := 16 * w + i) (v := v) (by omega)).1 (by rw [h3 w i hw.1 hw.2 hi.1 (by omega)]; exact he)
        exact hms.2 ⟨hi, hf⟩ _ _ hb
    · -- the change, and its note
      have hHc := hH
      obtain ⟨k0, k1, k2, k3, k4, k5⟩ := hHc
      have ec := s5_change hG h1 hi hw hf
      obtain ⟨hGc, hac⟩ := mX5_change 6 i w v μ hG zagr_refl _ _ ec
      have c121 : zupd μ (8 + w) i v 12 1 = μ 12 1 := by simp (disch := omega) only [if_true, if_false, not_true_eq_false, not_false_eq_true, zcall_ok, zjn_ok, zbl_0, zbl_1, zu_eq, zu_a, zu_j, if_pos, if_neg, ge_iff_le, gt_iff_lt, ne_eq, Int.cast_ofNat_Int, Int.add_zero, Int.zero_add, Int.reduceAdd, Int.reduceSub, Int.reduceMul, Int.reduceNeg, gf_6, pf_6, vc_6]
      obtain ⟨μ1, en, n1, n2, n3, n4, n5, n6, n7⟩ := s2_note hGc (by rw [c121]; omega) (by rw [c121]; omega) i w (μ (8 + w) i) v
      obtain ⟨hG1, ha1⟩ := mX2_note 12 i w (μ (8 + w) i) v _ hGc zagr_refl _ _ en
      have e10 : fX10_mend 5 i w v μ = some (μ (8 + w) i, μ1) := by
        unfold fX10_mend
        simp (disch := omega) only [s5_has, zb_t, (s5_fits hG w v).1 hf, s5_part hG h1, if_true, if_false, not_true_eq_false, not_false_eq_true, zcall_ok, zjn_ok, zbl_0, zbl_1, zu_eq, zu_a, zu_j, if_pos, if_neg, ge_iff_le, gt_iff_lt, ne_eq, Int.cast_ofNat_Int, Int.add_zero, Int.zero_add, Int.reduceAdd, Int.reduceSub, Int.reduceMul, Int.reduceNeg, gf_5, pf_5, vc_5, gf_6, pf_6, vc_6, gf_12, pf_12, vc_12, g_5_0 hG, g_5_1 hG, g_5_2 hG, g_5_3 hG, g_5_4 hG, g_5_5 hG, g_5_6 hG, g_6_0 hG, g_12_0 hG]
        simp (disch := omega) only [ec, en, if_true, if_false, not_true_eq_false, not_false_eq_true, zcall_ok, zjn_ok, zbl_0, zbl_1, zu_eq, zu_a, zu_j, if_pos, if_neg, ge_iff_le, gt_iff_lt, ne_eq, Int.cast_ofNat_Int, Int.add_zero, Int.zero_add, Int.reduceAdd, Int.reduceSub, Int.reduceMul, Int.reduceNeg, gf_5, pf_5, vc_5, gf_6, pf_6, vc_6, gf_12, pf_12, vc_12, g_5_0 hG, g_5_1 hG, g_5_2 hG, g_5_3 hG, g_5_4 hG, g_5_5 hG, g_5_6 hG, g_6_0 hG, g_12_0 hG]
      have p130 : ∀ j : Int, μ1 130 j = μ 130 j := fun j => (zag ha1 (tg_130 j)).trans (zag hac (tg_130 j))
      have q5 : μ1 129 5 = μ 129 5 := (zag ha1 tf_129_5).trans (zag hac tf_129_5)
      have q6 : μ1 6 1 = μ 6 1 := (zag ha1 tf_6_1).trans (zag hac tf_6_1)
      have q96 : μ1 129 6 = μ 129 6 := (zag ha1 tf_129_6).trans (zag hac tf_129_6)
      have p8 : ∀ x y : Int, 0 ≤ x → x < 4 → μ1 (8 + x) y = if x = w ∧ y = i then v else μ (8 + x) y := fun x y hx0 hx4 => by
        rw [zag ha1 (tg8 hx0 hx4 y)]
        unfold zupd
        by_cases hxy : x = w ∧ y = i
        · rw [if_pos (by omega), if_pos hxy]
        · rw [if_neg (by omega), if_neg hxy]
      have ew : μ1 130 (16 * w + i) = μ (8 + w) i := by rw [p130]; exact h3 w i hw.1 hw.2 hi.1 (by omega)
      obtain ⟨μ2, eb, b1, b2, b3, b4, b5, b6, b7⟩ := (s11_becomes hG1 (by rw [q5]; omega) (by rw [q5]; omega) (at_ := 16 * w + i) (v := v) (by omega)).2 (by rw [ew]; exact he)
      obtain ⟨hG2, ha2⟩ := mX11_becomes 129 (16 * w + i) v _ hG1 zagr_refl _ _ eb
      have q62 : μ2 6 1 = μ 6 1 := (zag ha2 tf_6_1).trans q6
      -- the reference's own test of the sayings stands over the class's memory: it asks for its own count alone
      have e11 : fX11_mend 129 i w v μ1 = some (μ (8 + w) i, μ2) := by
        rw [ew] at eb
        have hs : fX11_isSaying 129 i μ1 = some (1, μ1) := by
          unfold fX11_isSaying
          simp (disch := omega) only [s11_within, q96, h2, zw32_id, zb_t, if_true, if_false, not_true_eq_false, not_false_eq_true, zcall_ok, zjn_ok, zbl_0, zbl_1, zu_eq, zu_a, zu_j, if_pos, if_neg, ge_iff_le, gt_iff_lt, ne_eq, Int.cast_ofNat_Int, Int.add_zero, Int.zero_add, Int.reduceAdd, Int.reduceSub, Int.reduceMul, Int.reduceNeg, gf_129, pf_129, vc_129]
        rw [s11_mendA (by omega) hs hf, eb, vc_129]
      refine ⟨_, μ1, μ2, e10, e11, ⟨by omega, by omega, ?_, fun x y a b c d => ?_, fun x y a b c d => ?_⟩, ?_, q62⟩
      · rw [zag ha2 tf_129_6, q96, q62]; exact h2
      · rw [b7, zag ha2 (tg8 a b y), p8 x y a b, p130]
        by_cases hxy : x = w ∧ y = i
        · rw [if_pos (by omega), if_pos hxy]
        · rw [if_neg (by omega), if_neg hxy]
          exact h3 x y a b c d
      · rw [zag ha2 (tg8 a b y), p8 x y a b]
        by_cases hxy : x = w ∧ y = i
        · rw [if_pos hxy, hxy.1]; exact hf
        · rw [if_neg hxy]
          exact h4 x y a b c (by omega)
      · have u1 : μ2 12 1 = μ1 12 1 := zag ha2 tf_12_1
        have u2 : μ2 12 2 = μ1 12 2 := zag ha2 tf_12_2
        rw [c121] at n1 n2 n3 n4 n5 n6 n7
        rw [q5, k3] at b1 b2 b3 b4 b5 b6
        refine ⟨by rw [u1, n1]; split <;> omega, by omega, by rw [u2, n2]; split <;> omega, by rw [b1, u1, n1], by rw [b2, u2, n2], fun k hk0 hk => ?_⟩
        rw [zag ha2 (tg_14 k), zag ha2 (tg_15 k), zag ha2 (tg_16 k), zag ha2 (tg_17 k), q62]
        rw [u2, n2] at hk
        by_cases hkd : k = (if μ 12 1 < 40 then μ 12 1 else 39)
        · rw [hkd, n4, n5, n6, n7, b4, b5, b6, ew]
          exact ⟨hi, hw, h4 w i hw.1 hw.2 hi.1 hi.2, hf, rfl, rfl, rfl⟩
        · have hk2 : k < (if μ 12 1 < 40 then μ 12 1 else 39) := by omega
          rw [n3 14 k (by omega) (by omega) hk0 hk2, n3 15 k (by omega) (by omega) hk0 hk2, n3 16 k (by omega) (by omega) hk0 hk2, n3 17 k (by omega) (by omega) hk0 hk2, b3 131 k (by omega) (by omega) hk0 hk2, b3 132 k (by omega) (by omega) hk0 hk2, b3 133 k (by omega) (by omega) hk0 hk2]
          have g : ∀ r t : Int, (r = 14 ∧ t = 200) ∨ (r = 15 ∧ t = 200) ∨ (r = 16 ∧ t = 200) ∨ (r = 17 ∧ t = 200) → zupd μ (8 + w) i v r (k + if μ 12 1 < 40 then 0 else 1) = μ r (k + if μ 12 1 < 40 then 0 else 1) := by
            intro r t hr
            simp (disch := omega) only [if_true, if_false, not_true_eq_false, not_false_eq_true, zcall_ok, zjn_ok, zbl_0, zbl_1, zu_eq, zu_a, zu_j, if_pos, if_neg, ge_iff_le, gt_iff_lt, ne_eq, Int.cast_ofNat_Int, Int.add_zero, Int.zero_add, Int.reduceAdd, Int.reduceSub, Int.reduceMul, Int.reduceNeg, gf_6, pf_6, vc_6]
          rw [g 14 200 (by omega), g 15 200 (by omega), g 16 200 (by omega), g 17 200 (by omega)]
          rw [(zag ha1 (tg_131 _)).trans (zag hac (tg_131 _)), (zag ha1 (tg_132 _)).trans (zag hac (tg_132 _)), (zag ha1 (tg_133 _)).trans (zag hac (tg_133 _))]
          exact k5 _ (by split <;> omega) (by split at hk2 <;> split <;> omega)
  · refine ⟨-1, μ, μ, ?_, (s11_mend hS i w v).1 hc, hS, hH, rfl⟩
    unfold fX10_mend
    by_cases hi : 0 ≤ i ∧ i < μ 6 1
    · simp (disch := omega) only [s5_has, zb_t, (s5_fits hG w v).2 (fun q => hc ⟨hi, q⟩), if_true, if_false, not_true_eq_false, not_false_eq_true, zcall_ok, zjn_ok, zbl_0, zbl_1, zu_eq, zu_a, zu_j, if_pos, if_neg, ge_iff_le, gt_iff_lt, ne_eq, Int.cast_ofNat_Int, Int.add_zero, Int.zero_add, Int.reduceAdd, Int.reduceSub, Int.reduceMul, Int.reduceNeg, gf_5, pf_5, vc_5, gf_6, pf_6, vc_6, g_5_0 hG, g_5_1 hG, g_5_2 hG, g_5_3 hG, g_5_4 hG, g_5_5 hG, g_5_6 hG, g_6_0 hG]
    · simp (disch := omega) only [s5_has, zb_f, if_true, if_false, not_true_eq_false, not_false_eq_true, zcall_ok, zjn_ok, zbl_0, zbl_1, zu_eq, zu_a, zu_j, if_pos, if_neg, ge_iff_le, gt_iff_lt, ne_eq, Int.cast_ofNat_Int, Int.add_zero, Int.zero_add, Int.reduceAdd, Int.reduceSub, Int.reduceMul, Int.reduceNeg, gf_5, pf_5, vc_5, gf_6, pf_6, vc_6, g_5_0 hG, g_5_1 hG, g_5_2 hG, g_5_3 hG, g_5_4 hG, g_5_5 hG, g_5_6 hG, g_6_0 hG]
