/-! ===== saying, of ===== -/
def zapp (μ : zMem) (a b c d : Int) : zMem := zupd (zupd (zupd (zupd (zupd μ 8 (μ 6 1) a) 9 (μ 6 1) b) 10 (μ 6 1) c) 11 (μ 6 1) d) 6 1 (μ 6 1 + 1)
def zone (a b c d : Int) : Prop := (0 ≤ a ∧ a ≤ 10) ∧ (0 ≤ b ∧ b ≤ 3) ∧ (0 ≤ c ∧ c ≤ 7) ∧ 1 ≤ d ∧ d ≤ 30
theorem zone_fit {a b c d : Int} : zone a b c d ↔ zfit 0 a ∧ zfit 1 b ∧ zfit 2 c ∧ zfit 3 d := by unfold zone zfit; omega
theorem s5_append {μ : zMem} (hG : zG0 μ) (h0 : 0 ≤ μ 6 1) (h1 : μ 6 1 ≤ 16) (a b c d : Int) :
    (¬ zone a b c d → fX5_append 6 a b c d μ = some (-1, μ)) ∧ (zone a b c d → μ 6 1 = 16 → fX5_append 6 a b c d μ = some (-3, μ)) ∧ (zone a b c d → μ 6 1 < 16 → fX5_append 6 a b c d μ = some (μ 6 1, zapp μ a b c d)) := by
  rw [zone_fit]
  unfold fX5_append
  by_cases f0 : zfit 0 a
  · by_cases f1 : zfit 1 b
    · by_cases f2 : zfit 2 c
      · by_cases f3 : zfit 3 d
        · rw [(s5_fits hG 0 a).1 f0, zcall_ok, if_neg (by omega), (s5_fits hG 1 b).1 f1, zcall_ok, if_neg (by omega), (s5_fits hG 2 c).1 f2, zcall_ok, if_neg (by omega), (s5_fits hG 3 d).1 f3, zcall_ok]
          refine ⟨fun h => absurd ⟨f0, f1, f2, f3⟩ h, fun _ h => ?_, fun _ h => ?_⟩
          · simp (disch := omega) only [if_true, if_false, not_true_eq_false, not_false_eq_true, zcall_ok, zjn_ok, zbl_0, zbl_1, zu_eq, zu_a, zu_j, if_pos, if_neg, ge_iff_le, gt_iff_lt, ne_eq, Int.cast_ofNat_Int, Int.add_zero, Int.zero_add, Int.reduceAdd, Int.reduceSub, Int.reduceMul, Int.reduceNeg, gf_6, pf_6, vc_6, g_6_0 hG]
          · simp (disch := omega) only [zw32_id, if_true, if_false, not_true_eq_false, not_false_eq_true, zcall_ok, zjn_ok, zbl_0, zbl_1, zu_eq, zu_a, zu_j, if_pos, if_neg, ge_iff_le, gt_iff_lt, ne_eq, Int.cast_ofNat_Int, Int.add_zero, Int.zero_add, Int.reduceAdd, Int.reduceSub, Int.reduceMul, Int.reduceNeg, gf_6, pf_6, vc_6, al_7, ln_7, al_8, as_8, ln_8, al_9, as_9, ln_9, al_10, as_10, ln_10, al_11, as_11, ln_11, g_6_0 hG, g_7_0 hG, g_7_1 hG, g_7_2 hG, g_7_3 hG]
            rw [show μ 6 1 + 1 - 1 = μ 6 1 by omega]
            rfl
        · refine ⟨fun _ => ?_, fun h => absurd h.2.2.2 f3, fun h => absurd h.2.2.2 f3⟩
          rw [(s5_fits hG 0 a).1 f0, zcall_ok, if_neg (by omega), (s5_fits hG 1 b).1 f1, zcall_ok, if_neg (by omega), (s5_fits hG 2 c).1 f2, zcall_ok, if_neg (by omega), (s5_fits hG 3 d).2 f3]
          simp (disch := omega) only [if_true, if_false, not_true_eq_false, not_false_eq_true, zcall_ok, zjn_ok, zbl_0, zbl_1, zu_eq, zu_a, zu_j, if_pos, if_neg, ge_iff_le, gt_iff_lt, ne_eq, Int.cast_ofNat_Int, Int.add_zero, Int.zero_add, Int.reduceAdd, Int.reduceSub, Int.reduceMul, Int.reduceNeg, gf_6, pf_6, vc_6, g_6_0 hG]
      · refine ⟨fun _ => ?_, fun h => absurd h.2.2.1 f2, fun h => absurd h.2.2.1 f2⟩
        rw [(s5_fits hG 0 a).1 f0, zcall_ok, if_neg (by omega), (s5_fits hG 1 b).1 f1, zcall_ok, if_neg (by omega), (s5_fits hG 2 c).2 f2]
        simp (disch := omega) only [if_true, if_false, not_true_eq_false, not_false_eq_true, zcall_ok, zjn_ok, zbl_0, zbl_1, zu_eq, zu_a, zu_j, if_pos, if_neg, ge_iff_le, gt_iff_lt, ne_eq, Int.cast_ofNat_Int, Int.add_zero, Int.zero_add, Int.reduceAdd, Int.reduceSub, Int.reduceMul, Int.reduceNeg, gf_6, pf_6, vc_6, g_6_0 hG]
    · refine ⟨fun _ => ?_, fun h => absurd h.2.1 f1, fun h => absurd h.2.1 f1⟩
      rw [(s5_fits hG 0 a).1 f0, zcall_ok, if_neg (by omega), (s5_fits hG 1 b).2 f1]
      simp (disch := omega) only [if_true, if_false, not_true_eq_false, not_false_eq_true, zcall_ok, zjn_ok, zbl_0, zbl_1, zu_eq, zu_a, zu_j, if_pos, if_neg, ge_iff_le, gt_iff_lt, ne_eq, Int.cast_ofNat_Int, Int.add_zero, Int.zero_add, Int.reduceAdd, Int.reduceSub, Int.reduceMul, Int.reduceNeg, gf_6, pf_6, vc_6, g_6_0 hG]
  · refine ⟨fun _ => ?_, fun h => absurd h.1 f0, fun h => absurd h.1 f0⟩
    rw [(s5_fits hG 0 a).2 f0]
    simp (disch := omega) only [if_true, if_false, not_true_eq_false, not_false_eq_true, zcall_ok, zjn_ok, zbl_0, zbl_1, zu_eq, zu_a, zu_j, if_pos, if_neg, ge_iff_le, gt_iff_lt, ne_eq, Int.cast_ofNat_Int, Int.add_zero, Int.zero_add, Int.reduceAdd, Int.reduceSub, Int.reduceMul, Int.reduceNeg, gf_6, pf_6, vc_6, g_6_0 hG]
theorem zcmp_lt {x y : Int} : (zcmp x y < 0) = (x < y) := by unfold zcmp; split <;> (try split) <;> simp <;> omega
theorem zcmp_gt {x y : Int} : (zcmp x y > 0) = (x > y) := by unfold zcmp; split <;> (try split) <;> simp <;> omega
theorem s11_within {μ : zMem} (x a b : Int) : fX11_within x a b μ = some (zb (a ≤ x ∧ x ≤ b), μ) := by
  unfold fX11_within
  simp only [zcmp_lt, zcmp_gt]
  by_cases h0 : x < a
  · simp (disch := omega) only [zb_f, if_true, if_false, not_true_eq_false, not_false_eq_true, zcall_ok, zjn_ok, zbl_0, zbl_1, zu_eq, zu_a, zu_j, if_pos, if_neg, ge_iff_le, gt_iff_lt, ne_eq, Int.cast_ofNat_Int, Int.add_zero, Int.zero_add, Int.reduceAdd, Int.reduceSub, Int.reduceMul, Int.reduceNeg, gf_6, pf_6, vc_6]
  · by_cases h1 : x > b
    · simp (disch := omega) only [zb_f, if_true, if_false, not_true_eq_false, not_false_eq_true, zcall_ok, zjn_ok, zbl_0, zbl_1, zu_eq, zu_a, zu_j, if_pos, if_neg, ge_iff_le, gt_iff_lt, ne_eq, Int.cast_ofNat_Int, Int.add_zero, Int.zero_add, Int.reduceAdd, Int.reduceSub, Int.reduceMul, Int.reduceNeg, gf_6, pf_6, vc_6]
    · simp (disch := omega) only [zb_t, if_true, if_false, not_true_eq_false, not_false_eq_true, zcall_ok, zjn_ok, zbl_0, zbl_1, zu_eq, zu_a, zu_j, if_pos, if_neg, ge_iff_le, gt_iff_lt, ne_eq, Int.cast_ofNat_Int, Int.add_zero, Int.zero_add, Int.reduceAdd, Int.reduceSub, Int.reduceMul, Int.reduceNeg, gf_6, pf_6, vc_6]
theorem zb01 {c : Prop} [Decidable c] : zb c = 0 ∨ zb c = 1 := by unfold zb; split <;> simp
theorem zb_ite {c : Prop} [Decidable c] {α : Type} {x y : α} : (if zb c = 0 then x else y) = if c then y else x := by
  by_cases h : c
  · rw [zb_t h, if_pos h, if_neg (by omega)]
  · rw [zb_f h, if_neg h, if_pos rfl]
theorem zb_itn {c : Prop} [Decidable c] {α : Type} {x y : α} : (if zb c ≠ 0 then x else y) = if c then x else y := by
  by_cases h : c
  · rw [zb_t h, if_pos h, if_pos (by omega)]
  · rw [zb_f h, if_neg h, if_neg (by omega)]
theorem s11_isSaying {μ : zMem} (hS : zGS μ) (i : Int) : fX11_isSaying 129 i μ = some (zb (0 ≤ i ∧ i < μ 6 1), μ) := by
  obtain ⟨h0, h1, h2, -⟩ := hS
  unfold fX11_isSaying
  simp (disch := omega) only [gf_129, Int.cast_ofNat_Int, s11_within, zcall_ok, h2, zw32_id, zbl_ok zb01]
  congr 2
  by_cases h : 0 ≤ i ∧ i < μ 6 1
  · rw [zb_t h, zb_t (by omega)]
  · rw [zb_f h, zb_f (by omega)]
theorem s11_isOne {μ : zMem} (a b c d : Int) : (zone a b c d → fX11_isOne a b c d μ = some (1, μ)) ∧ (¬ zone a b c d → fX11_isOne a b c d μ = some (0, μ)) := by
  unfold fX11_isOne zone
  simp only [s11_within, zcall_ok, zjn_ok, zb_ite, zbl_0, zbl_1]
  refine ⟨fun h => ?_, fun h => ?_⟩
  · rw [if_pos h.1, if_pos h.2.1, if_pos h.2.2.1, if_pos h.2.2.2]
  · by_cases h1 : 0 ≤ a ∧ a ≤ 10
    · rw [if_pos h1]
      by_cases h2 : 0 ≤ b ∧ b ≤ 3
      · rw [if_pos h2]
        by_cases h3 : 0 ≤ c ∧ c ≤ 7
        · rw [if_pos h3, if_neg (by omega)]
        · rw [if_neg h3]
      · rw [if_neg h2]
    · rw [if_neg h1]
def zadd (μ : zMem) (a b c d : Int) : zMem := zupd (zupd (zupd (zupd (zupd μ 130 (μ 129 6) a) 130 (16 + μ 129 6) b) 130 (32 + μ 129 6) c) 130 (48 + μ 129 6) d) 129 6 (μ 129 6 + 1)
theorem s11_adds {μ : zMem} (hG : zG0 μ) (h0 : 0 ≤ μ 129 6) (h1 : μ 129 6 < 16) (a b c d : Int) : fX11_adds 129 a b c d μ = some (0, zadd μ a b c d) := by
  unfold fX11_adds
  simp (disch := omega) only [zw32_id, if_true, if_false, not_true_eq_false, not_false_eq_true, zcall_ok, zjn_ok, zbl_0, zbl_1, zu_eq, zu_a, zu_j, if_pos, if_neg, ge_iff_le, gt_iff_lt, ne_eq, Int.cast_ofNat_Int, Int.add_zero, Int.zero_add, Int.reduceAdd, Int.reduceSub, Int.reduceMul, Int.reduceNeg, gf_129, pf_129, vc_129, al_130, as_130, ln_130, g_129_0 hG, g_129_1 hG, g_129_2 hG, g_129_3 hG, g_129_7 hG, g_129_10 hG, g_129_11 hG, g_129_12 hG, g_129_13 hG, g_129_19 hG, g_129_21 hG, g_129_22 hG, g_129_23 hG, g_129_24 hG, g_129_25 hG, g_129_26 hG, g_129_28 hG, g_129_29 hG, g_129_33 hG, g_129_34 hG, g_129_35 hG, g_129_36 hG]
  rfl
theorem s11_saying {μ : zMem} (hG : zG0 μ) (hS : 0 ≤ μ 129 6 ∧ μ 129 6 ≤ 16) (ws ol : Int) (h0 : 0 ≤ ws) (h1 : 0 ≤ ol) :
    (¬ zone (zw32 (Int.tdiv ws 10)) (Int.tmod ws 10) (zw32 (Int.tdiv ol 100)) (Int.tmod ol 100) → fX11_saying 129 ws ol μ = some (-1, μ)) ∧
    (zone (zw32 (Int.tdiv ws 10)) (Int.tmod ws 10) (zw32 (Int.tdiv ol 100)) (Int.tmod ol 100) → (μ 129 6 = 16 → fX11_saying 129 ws ol μ = some (-3, μ)) ∧ (μ 129 6 < 16 → fX11_saying 129 ws ol μ = some (μ 129 6, zadd μ (zw32 (Int.tdiv ws 10)) (Int.tmod ws 10) (zw32 (Int.tdiv ol 100)) (Int.tmod ol 100)))) := by
  unfold fX11_saying
  rw [if_neg (by omega), if_neg (by omega)]
  simp only [znz_ok (show ¬ (10 : Int) = 0 by decide), znz_ok (show ¬ (100 : Int) = 0 by decide)]
  refine ⟨fun h => ?_, fun h => ⟨fun h2 => ?_, fun h2 => ?_⟩⟩
  · rw [(s11_isOne _ _ _ _).2 h, zcall_ok, if_neg (by omega)]
  · rw [(s11_isOne _ _ _ _).1 h, zcall_ok, if_pos (by omega)]
    simp (disch := omega) only [if_true, if_false, not_true_eq_false, not_false_eq_true, zcall_ok, zjn_ok, zbl_0, zbl_1, zu_eq, zu_a, zu_j, if_pos, if_neg, ge_iff_le, gt_iff_lt, ne_eq, Int.cast_ofNat_Int, Int.add_zero, Int.zero_add, Int.reduceAdd, Int.reduceSub, Int.reduceMul, Int.reduceNeg, gf_129, pf_129, vc_129, g_129_0 hG, g_129_1 hG, g_129_2 hG, g_129_3 hG, g_129_7 hG, g_129_10 hG, g_129_11 hG, g_129_12 hG, g_129_13 hG, g_129_19 hG, g_129_21 hG, g_129_22 hG, g_129_23 hG, g_129_24 hG, g_129_25 hG, g_129_26 hG, g_129_28 hG, g_129_29 hG, g_129_33 hG, g_129_34 hG, g_129_35 hG, g_129_36 hG]
  · rw [(s11_isOne _ _ _ _).1 h, zcall_ok, if_pos (by omega)]
    simp (disch := omega) only [s11_adds hG hS.1 h2, if_true, if_false, not_true_eq_false, not_false_eq_true, zcall_ok, zjn_ok, zbl_0, zbl_1, zu_eq, zu_a, zu_j, if_pos, if_neg, ge_iff_le, gt_iff_lt, ne_eq, Int.cast_ofNat_Int, Int.add_zero, Int.zero_add, Int.reduceAdd, Int.reduceSub, Int.reduceMul, Int.reduceNeg, gf_129, pf_129, vc_129, g_129_0 hG, g_129_1 hG, g_129_2 hG, g_129_3 hG, g_129_7 hG, g_129_10 hG, g_129_11 hG, g_129_12 hG, g_129_13 hG, g_129_19 hG, g_129_21 hG, g_129_22 hG, g_129_23 hG, g_129_24 hG, g_129_25 hG, g_129_26 hG, g_129_28 hG, g_129_29 hG, g_129_33 hG, g_129_34 hG, g_129_35 hG, g_129_36 hG]
    unfold zadd
    simp (disch := omega) only [zw32_id, if_true, if_false, not_true_eq_false, not_false_eq_true, zcall_ok, zjn_ok, zbl_0, zbl_1, zu_eq, zu_a, zu_j, if_pos, if_neg, ge_iff_le, gt_iff_lt, ne_eq, Int.cast_ofNat_Int, Int.add_zero, Int.zero_add, Int.reduceAdd, Int.reduceSub, Int.reduceMul, Int.reduceNeg, gf_129, pf_129, vc_129, g_129_0 hG, g_129_1 hG, g_129_2 hG, g_129_3 hG, g_129_7 hG, g_129_10 hG, g_129_11 hG, g_129_12 hG, g_129_13 hG, g_129_19 hG, g_129_21 hG, g_129_22 hG, g_129_23 hG, g_129_24 hG, g_129_25 hG, g_129_26 hG, g_129_28 hG, g_129_29 hG, g_129_33 hG, g_129_34 hG, g_129_35 hG, g_129_36 hG]
    rw [show μ 129 6 + 1 - 1 = μ 129 6 by omega]
theorem zGS_step {μ : zMem} (hS : zGS μ) {a b c d : Int} (h : zone a b c d) (hN : μ 6 1 < 16) : zGS (zadd (zapp μ a b c d) a b c d) := by
  obtain ⟨h0, h1, h2, h3, h4⟩ := hS
  have e6 : zadd (zapp μ a b c d) a b c d 6 1 = μ 6 1 + 1 := by unfold zadd zapp; simp (disch := omega) only [if_true, if_false, not_true_eq_false, not_false_eq_true, zcall_ok, zjn_ok, zbl_0, zbl_1, zu_eq, zu_a, zu_j, if_pos, if_neg, ge_iff_le, gt_iff_lt, ne_eq, Int.cast_ofNat_Int, Int.add_zero, Int.zero_add, Int.reduceAdd, Int.reduceSub, Int.reduceMul, Int.reduceNeg, gf_6, pf_6, vc_6]
  have eA : ∀ w i : Int, 0 ≤ w → w < 4 → zadd (zapp μ a b c d) a b c d (8 + w) i = if i = μ 6 1 then (if w = 0 then a else if w = 1 then b else if w = 2 then c else d) else μ (8 + w) i := by
    intro w i hw0 hw4
    unfold zadd zapp
    by_cases hi : i = μ 6 1
    · rw [if_pos hi]
      rcases znat4 hw0 hw4 with rfl | rfl | rfl | rfl <;> simp [zupd, hi]
    · rw [if_neg hi]
      rcases znat4 hw0 hw4 with rfl | rfl | rfl | rfl <;> simp [zupd, hi]
  have eB : ∀ w i : Int, 0 ≤ w → w < 4 → 0 ≤ i → i < 16 → zadd (zapp μ a b c d) a b c d 130 (16 * w + i) = if i = μ 6 1 then (if w = 0 then a else if w = 1 then b else if w = 2 then c else d) else μ 130 (16 * w + i) := by
    intro w i hw0 hw4 hi0 hi1
    have e : zapp μ a b c d 129 6 = μ 6 1 := by unfold zapp; simp (disch := omega) only [if_true, if_false, not_true_eq_false, not_false_eq_true, zcall_ok, zjn_ok, zbl_0, zbl_1, zu_eq, zu_a, zu_j, if_pos, if_neg, ge_iff_le, gt_iff_lt, ne_eq, Int.cast_ofNat_Int, Int.add_zero, Int.zero_add, Int.reduceAdd, Int.reduceSub, Int.reduceMul, Int.reduceNeg, gf_6, pf_6, vc_6]; exact h2
    unfold zadd
    rw [e]
    by_cases hi : i = μ 6 1
    · rw [if_pos hi]
      rcases znat4 hw0 hw4 with rfl | rfl | rfl | rfl <;> simp [zupd, zapp, hi] <;> omega
    · rw [if_neg hi]
      rcases znat4 hw0 hw4 with rfl | rfl | rfl | rfl <;> simp [zupd, zapp, hi] <;> omega
  refine ⟨by omega, by omega, ?_, fun w i hw0 hw4 hi0 hi1 => ?_, fun w i hw0 hw4 hi0 hi1 => ?_⟩
  · rw [e6]
    unfold zadd zapp
    simp (disch := omega) only [if_true, if_false, not_true_eq_false, not_false_eq_true, zcall_ok, zjn_ok, zbl_0, zbl_1, zu_eq, zu_a, zu_j, if_pos, if_neg, ge_iff_le, gt_iff_lt, ne_eq, Int.cast_ofNat_Int, Int.add_zero, Int.zero_add, Int.reduceAdd, Int.reduceSub, Int.reduceMul, Int.reduceNeg, gf_6, pf_6, vc_6]
    omega
  · rw [eA w i hw0 hw4, eB w i hw0 hw4 hi0 hi1, h3 w i hw0 hw4 hi0 hi1]
  · rw [e6] at hi1
    rw [eA w i hw0 hw4]
    by_cases hi : i = μ 6 1
    · rw [if_pos hi]
      unfold zone at h
      unfold zfit
      rcases znat4 hw0 hw4 with rfl | rfl | rfl | rfl <;> simp <;> omega
    · rw [if_neg hi]
      exact h4 w i hw0 hw4 hi0 (by omega)
theorem op_saying {μ : zMem} (hG : zG0 μ) (hS : zGS μ) (ws ol : Int) : ∃ r μ1 μ2, fX10_saying 5 ws ol μ = some (r, μ1) ∧ fX11_saying 129 ws ol μ1 = some (r, μ2) ∧ zGS μ2 ∧ μ 6 1 ≤ μ2 6 1 := by
  have hS0 := hS
  obtain ⟨h0, h1, h2, h3, h4⟩ := hS0
  by_cases hw : ws < 0
  · refine ⟨-1, μ, μ, ?_, ?_, hS, Int.le_refl _⟩
    · unfold fX10_saying; rw [if_pos hw]
    · unfold fX11_saying; rw [if_pos hw]
  by_cases ho : ol < 0
  · refine ⟨-1, μ, μ, ?_, ?_, hS, Int.le_refl _⟩
    · unfold fX10_saying; rw [if_neg hw, if_neg (by omega)]
    · unfold fX11_saying; rw [if_neg hw, if_pos ho]
  have r1 := s11_saying hG (by omega) ws ol (by omega) (by omega)
  have key : ∀ r μ1, fX5_append 6 (zw32 (Int.tdiv ws 10)) (Int.tmod ws 10) (zw32 (Int.tdiv ol 100)) (Int.tmod ol 100) μ = some (r, μ1) → fX10_saying 5 ws ol μ = some (r, μ1) := by
    intro r μ1 h
    unfold fX10_saying
    simp only [znz_ok (show ¬ (10 : Int) = 0 by decide), znz_ok (show ¬ (100 : Int) = 0 by decide)]
    simp (disch := omega) only [h, if_true, if_false, not_true_eq_false, not_false_eq_true, zcall_ok, zjn_ok, zbl_0, zbl_1, zu_eq, zu_a, zu_j, if_pos, if_neg, ge_iff_le, gt_iff_lt, ne_eq, Int.cast_ofNat_Int, Int.add_zero, Int.zero_add, Int.reduceAdd, Int.reduceSub, Int.reduceMul, Int.reduceNeg, gf_5, pf_5, vc_5, gf_6, pf_6, vc_6, g_5_0 hG, g_5_1 hG, g_5_2 hG, g_5_3 hG, g_5_4 hG, g_5_5 hG, g_5_6 hG, g_6_0 hG]
  have hap := s5_append hG h0 h1 (zw32 (Int.tdiv ws 10)) (Int.tmod ws 10) (zw32 (Int.tdiv ol 100)) (Int.tmod ol 100)
  by_cases hz : zone (zw32 (Int.tdiv ws 10)) (Int.tmod ws 10) (zw32 (Int.tdiv ol 100)) (Int.tmod ol 100)
  · by_cases hN : μ 6 1 = 16
    · exact ⟨-3, μ, μ, key _ _ (hap.2.1 hz hN), (r1.2 hz).1 (by omega), hS, Int.le_refl _⟩
    · have e1 := key _ _ (hap.2.2 hz (by omega))
      have hG1 := (mX10_saying 5 ws ol μ hG zagr_refl _ _ e1).1
      have e2 : zapp μ (zw32 (Int.tdiv ws 10)) (Int.tmod ws 10) (zw32 (Int.tdiv ol 100)) (Int.tmod ol 100) 129 6 = μ 6 1 := by unfold zapp; simp (disch := omega) only [if_true, if_false, not_true_eq_false, not_false_eq_true, zcall_ok, zjn_ok, zbl_0, zbl_1, zu_eq, zu_a, zu_j, if_pos, if_neg, ge_iff_le, gt_iff_lt, ne_eq, Int.cast_ofNat_Int, Int.add_zero, Int.zero_add, Int.reduceAdd, Int.reduceSub, Int.reduceMul, Int.reduceNeg, gf_6, pf_6, vc_6]; exact h2
      have r2 := s11_saying hG1 (by rw [e2]; omega) ws ol (by omega) (by omega)
      refine ⟨μ 6 1, _, _, e1, ?_, zGS_step hS hz (by omega), ?_⟩
      · have := (r2.2 hz).2 (by rw [e2]; omega)
        rw [e2] at this
        exact this
      · unfold zadd zapp
        simp (disch := omega) only [if_true, if_false, not_true_eq_false, not_false_eq_true, zcall_ok, zjn_ok, zbl_0, zbl_1, zu_eq, zu_a, zu_j, if_pos, if_neg, ge_iff_le, gt_iff_lt, ne_eq, Int.cast_ofNat_Int, Int.add_zero, Int.zero_add, Int.reduceAdd, Int.reduceSub, Int.reduceMul, Int.reduceNeg, gf_6, pf_6, vc_6]
        omega
  · exact ⟨-1, μ, μ, key _ _ (hap.1 hz), r1.1 hz, hS, Int.le_refl _⟩
