/-! ===== sayings ===== -/
/-- zGS, the class's half from u and the reference's from v -/
def zGR (u v : zMem) : Prop := 0 ≤ u 6 1 ∧ u 6 1 ≤ 16 ∧ v 129 6 = u 6 1 ∧ (∀ w i : Int, 0 ≤ w → w < 4 → 0 ≤ i → i < 16 → v 130 (16 * w + i) = u (8 + w) i) ∧ ∀ w i : Int, 0 ≤ w → w < 4 → 0 ≤ i → i < u 6 1 → zfit w (u (8 + w) i)
theorem zGR_step {u v : zMem} (hS : zGR u v) {a b c d : Int} (h : zone a b c d) (hN : u 6 1 < 16) : zGR (zapp u a b c d) (zadd v a b c d) := by
  obtain ⟨h0, h1, h2, h3, h4⟩ := hS
  have e6 : zapp u a b c d 6 1 = u 6 1 + 1 := by unfold zapp; simp (disch := omega) only [if_true, if_false, not_true_eq_false, not_false_eq_true, zcall_ok, zjn_ok, zbl_0, zbl_1, zu_eq, zu_a, zu_j, if_pos, if_neg, ge_iff_le, gt_iff_lt, ne_eq, Int.cast_ofNat_Int, Int.add_zero, Int.zero_add, Int.reduceAdd, Int.reduceSub, Int.reduceMul, Int.reduceNeg, gf_6, pf_6, vc_6]
  have eA : ∀ w i : Int, 0 ≤ w → w < 4 → zapp u a b c d (8 + w) i = if i = u 6 1 then (if w = 0 then a else if w = 1 then b else if w = 2 then c else d) else u (8 + w) i := by
    intro w i hw0 hw4
    unfold zapp
    by_cases hi : i = u 6 1
    · rw [if_pos hi]
      rcases znat4 hw0 hw4 with rfl | rfl | rfl | rfl <;> simp [zupd, hi]
    · rw [if_neg hi]
      rcases znat4 hw0 hw4 with rfl | rfl | rfl | rfl <;> simp [zupd, hi]
  have eB : ∀ w i : Int, 0 ≤ w → w < 4 → 0 ≤ i → i < 16 → zadd v a b c d 130 (16 * w + i) = if i = u 6 1 then (if w = 0 then a else if w = 1 then b else if w = 2 then c else d) else v 130 (16 * w + i) := by
    intro w i hw0 hw4 hi0 hi1
    unfold zadd
    rw [h2]
    by_cases hi : i = u 6 1
    · rw [if_pos hi]
      rcases znat4 hw0 hw4 with rfl | rfl | rfl | rfl <;> simp [zupd, hi] <;> omega
    · rw [if_neg hi]
      rcases znat4 hw0 hw4 with rfl | rfl | rfl | rfl <;> simp [zupd, hi] <;> omega
  refine ⟨by omega, by omega, ?_, fun w i hw0 hw4 hi0 hi1 => ?_, fun w i hw0 hw4 hi0 hi1 => ?_⟩
  · rw [e6]
    unfold zadd
    simp (disch := omega) only [if_true, if_false, not_true_eq_false, not_false_eq_true, zcall_ok, zjn_ok, zbl_0, zbl_1, zu_eq, zu_a, zu_j, if_pos, if_neg, ge_iff_le, gt_iff_lt, ne_eq, Int.cast_ofNat_Int, Int.add_zero, Int.zero_add, Int.reduceAdd, Int.reduceSub, Int.reduceMul, Int.reduceNeg, gf_6, pf_6, vc_6]
    omega
  · rw [eA w i hw0 hw4, eB w i hw0 hw4 hi0 hi1, h3 w i hw0 hw4 hi0 hi1]
  · rw [e6] at hi1
    rw [eA w i hw0 hw4]
    by_cases hi : i = u 6 1
    · rw [if_pos hi]
      unfold zone at h
      unfold zfit
      rcases znat4 hw0 hw4 with rfl | rfl | rfl | rfl <;> simp <;> omega
    · rw [if_neg hi]
      exact h4 w i hw0 hw4 hi0 (by omega)
theorem zGR_GS {μ : zMem} : zGS μ ↔ zGR μ μ := Iff.rfl
/-- so many sayings from the bytes L at i on, len bytes long, at most n from the v-th on -/
noncomputable def zsayC (L : Int → Int) (i len : Int) : Nat → Int → zMem → Int × zMem
  | 0, v, u => (v, u)
  | n + 1, v, u => @ite (Int × zMem) (i + 4 * v + 4 ≤ len ∧ u 6 1 < 16 ∧ zone (L (i + 4 * v)) (L (i + 4 * v + 1)) (L (i + 4 * v + 2)) (L (i + 4 * v + 3))) (Classical.propDecidable _) (zsayC L i len n (v + 1) (zapp u (L (i + 4 * v)) (L (i + 4 * v + 1)) (L (i + 4 * v + 2)) (L (i + 4 * v + 3)))) (v, u)
noncomputable def zsayR (L : Int → Int) (i len : Int) : Nat → Int → zMem → Int × zMem
  | 0, v, u => (v, u)
  | n + 1, v, u => @ite (Int × zMem) (i + 4 * v + 4 ≤ len ∧ u 129 6 < 16 ∧ zone (L (i + 4 * v)) (L (i + 4 * v + 1)) (L (i + 4 * v + 2)) (L (i + 4 * v + 3))) (Classical.propDecidable _) (zsayR L i len n (v + 1) (zadd u (L (i + 4 * v)) (L (i + 4 * v + 1)) (L (i + 4 * v + 2)) (L (i + 4 * v + 3)))) (v, u)
theorem zsay_rel {L : Int → Int} {i len : Int} : ∀ (n : Nat) (x : Int) (u v : zMem), zGR u v → (zsayC L i len n x u).1 = (zsayR L i len n x v).1 ∧ zGR (zsayC L i len n x u).2 (zsayR L i len n x v).2
  | 0, x, u, v, h => ⟨rfl, h⟩
  | n + 1, x, u, v, h => by
    unfold zsayC zsayR
    rw [h.2.2.1]
    by_cases hc : i + 4 * x + 4 ≤ len ∧ u 6 1 < 16 ∧ zone (L (i + 4 * x)) (L (i + 4 * x + 1)) (L (i + 4 * x + 2)) (L (i + 4 * x + 3))
    · rw [if_pos hc, if_pos hc]
      exact zsay_rel n (x + 1) _ _ (zGR_step h hc.2.2 hc.2.1)
    · rw [if_neg hc, if_neg hc]
      exact ⟨rfl, h⟩
theorem zsayC_N {L : Int → Int} {i len : Int} : ∀ (n : Nat) (x : Int) (u : zMem), u 6 1 ≤ (zsayC L i len n x u).2 6 1
  | 0, x, u => Int.le_refl _
  | n + 1, x, u => by
    unfold zsayC
    by_cases hc : i + 4 * x + 4 ≤ len ∧ u 6 1 < 16 ∧ zone (L (i + 4 * x)) (L (i + 4 * x + 1)) (L (i + 4 * x + 2)) (L (i + 4 * x + 3))
    · rw [if_pos hc]
      have := zsayC_N (L := L) (i := i) (len := len) n (x + 1) (zapp u (L (i + 4 * x)) (L (i + 4 * x + 1)) (L (i + 4 * x + 2)) (L (i + 4 * x + 3)))
      have e6 : ∀ a b c d : Int, zapp u a b c d 6 1 = u 6 1 + 1 := by intro a b c d; unfold zapp; simp (disch := omega) only [if_true, if_false, not_true_eq_false, not_false_eq_true, zcall_ok, zjn_ok, zbl_0, zbl_1, zu_eq, zu_a, zu_j, if_pos, if_neg, ge_iff_le, gt_iff_lt, ne_eq, Int.cast_ofNat_Int, Int.add_zero, Int.zero_add, Int.reduceAdd, Int.reduceSub, Int.reduceMul, Int.reduceNeg, gf_6, pf_6, vc_6]
      rw [e6] at this
      omega
    · rw [if_neg hc]
      exact Int.le_refl _
theorem s8_at {μ : zMem} (hG : zG0 μ) {d x : Int} (hd : 0 ≤ d ∧ d < 6) (hx : 0 ≤ x ∧ x < μ (zbF d) 3) (hl : μ (zbF d) 3 ≤ 60) : fX8_at (zbF d) x μ = some (μ (zbF d + 1) x, μ) := by
  unfold fX8_at
  simp (disch := omega) only [↓(vcF_of hd.1 hd.2 (s8_hasRange (i := x) (c := 1) hd (by omega) (by omega))), ↓gqF hG, ↓alF, alF, ↓zcall_ok, zcall_ok, ↓zjn_ok, zjn_ok, ↓zbl_0, zbl_0, ↓zbl_1, zbl_1, ↓if_pos, if_pos, ↓if_neg, if_neg, ↓zb_ite, zb_ite, ↓zb_itn, zb_itn, ↓gf_6, gf_6, ↓pf_6, pf_6, ↓vc_6, vc_6, if_true, if_false, not_true_eq_false, not_false_eq_true, zu_eq, zu_a, zu_j, ge_iff_le, gt_iff_lt, ne_eq, Int.cast_ofNat_Int, Int.add_zero, Int.zero_add, Int.reduceAdd, Int.reduceSub, Int.reduceMul, Int.reduceNeg]
theorem s10_comesFrom {μ : zMem} (hG : zG0 μ) (h0 : 0 ≤ μ 6 1) (h1 : μ 6 1 ≤ 16) {d x : Int} (hd : 0 ≤ d ∧ d < 6) (hl : μ (zbF d) 3 ≤ 60) (hx : -9000000000 ≤ x ∧ x ≤ 9000000000) (hb : ∀ k : Int, 0 ≤ k → k < μ (zbF d) 3 → -128 ≤ μ (zbF d + 1) k ∧ μ (zbF d + 1) k ≤ 127) :
    (0 ≤ x ∧ x + 4 ≤ μ (zbF d) 3 ∧ μ 6 1 < 16 ∧ zone (μ (zbF d + 1) x) (μ (zbF d + 1) (x + 1)) (μ (zbF d + 1) (x + 2)) (μ (zbF d + 1) (x + 3)) → fX10_comesFrom 5 (zbF d) x μ = some (1, zapp μ (μ (zbF d + 1) x) (μ (zbF d + 1) (x + 1)) (μ (zbF d + 1) (x + 2)) (μ (zbF d + 1) (x + 3)))) ∧
    (¬ (0 ≤ x ∧ x + 4 ≤ μ (zbF d) 3 ∧ μ 6 1 < 16 ∧ zone (μ (zbF d + 1) x) (μ (zbF d + 1) (x + 1)) (μ (zbF d + 1) (x + 2)) (μ (zbF d + 1) (x + 3))) → fX10_comesFrom 5 (zbF d) x μ = some (0, μ)) := by
  unfold fX10_comesFrom fX8_length
  simp only [zcmp_lt, zcmp_le]
  by_cases hx0 : 0 ≤ x
  · by_cases hx1 : x + 4 ≤ μ (zbF d) 3
    · have b0 := hb x (by omega) (by omega)
      have b1 := hb (x + 1) (by omega) (by omega)
      have b2 := hb (x + 2) (by omega) (by omega)
      have b3 := hb (x + 3) (by omega) (by omega)
      have hap := s5_append hG h0 h1 (μ (zbF d + 1) x) (μ (zbF d + 1) (x + 1)) (μ (zbF d + 1) (x + 2)) (μ (zbF d + 1) (x + 3))
      have a0 := s8_at hG (x := x) hd (by omega) hl
      have a1 := s8_at hG (x := x + 1) hd (by omega) hl
      have a2 := s8_at hG (x := x + 2) hd (by omega) hl
      have a3 := s8_at hG (x := x + 3) hd (by omega) hl
      have key : ∀ r μ', fX5_append 6 (μ (zbF d + 1) x) (μ (zbF d + 1) (x + 1)) (μ (zbF d + 1) (x + 2)) (μ (zbF d + 1) (x + 3)) μ = some (r, μ') → (if x < 0 then zbl 0 (some (0, μ)) else zvc 8 (zbF d) (zgf 8 3 (zbF d) μ fun v1 => some (v1, μ)) fun v1 u2 => if zw64 (x + 4) ≤ v1 then zgf 10 0 5 u2 fun v3 => zvc 8 (zbF d) (fX8_at (zbF d) (zw32 x) u2) fun v4 u5 => zvc 8 (zbF d) (fX8_at (zbF d) (zw32 (zw32 x + 1)) u5) fun v6 u7 => zvc 8 (zbF d) (fX8_at (zbF d) (zw32 (zw32 x + 2)) u7) fun v8 u9 => zvc 8 (zbF d) (fX8_at (zbF d) (zw32 (zw32 x + 3)) u9) fun v10 u11 => zvc 5 v3 (fX5_append v3 (zw32 v4) (zw32 v6) (zw32 v8) (zw32 v10) u11) fun v12 u13 => if v12 < 0 then zbl 0 (some (0, u13)) else zbl 1 (some (1, u13)) else zbl 0 (some (0, u2))) = if r < 0 then some (0, μ') else some (1, μ') := by
        intro r μ' he
        simp (disch := omega) only [↓gfF, gfF, ↓vcF, vcF, zw64_id, zw32_id, a0, a1, a2, a3, he, ↓zcall_ok, zcall_ok, ↓zjn_ok, zjn_ok, ↓zbl_0, zbl_0, ↓zbl_1, zbl_1, ↓if_pos, if_pos, ↓if_neg, if_neg, ↓zb_ite, zb_ite, ↓zb_itn, zb_itn, ↓gf_5, gf_5, ↓pf_5, pf_5, ↓vc_5, vc_5, ↓gf_6, gf_6, ↓pf_6, pf_6, ↓vc_6, vc_6, if_true, if_false, not_true_eq_false, not_false_eq_true, zu_eq, zu_a, zu_j, ge_iff_le, gt_iff_lt, ne_eq, Int.cast_ofNat_Int, Int.add_zero, Int.zero_add, Int.reduceAdd, Int.reduceSub, Int.reduceMul, Int.reduceNeg, ↓gq_5_0 hG, ↓gq_5_1 hG, ↓gq_5_2 hG, ↓gq_5_3 hG, ↓gq_5_4 hG, ↓gq_5_5 hG, ↓gq_5_6 hG, ↓gq_6_0 hG, g_5_0 hG, g_5_1 hG, g_5_2 hG, g_5_3 hG, g_5_4 hG, g_5_5 hG, g_5_6 hG, g_6_0 hG]
      refine ⟨fun h => ?_, fun h => ?_⟩
      · rw [key _ _ (hap.2.2 h.2.2.2 h.2.2.1), if_neg (by omega)]
      · by_cases hz : zone (μ (zbF d + 1) x) (μ (zbF d + 1) (x + 1)) (μ (zbF d + 1) (x + 2)) (μ (zbF d + 1) (x + 3))
        · rw [key _ _ (hap.2.1 hz (by have : ¬ μ 6 1 < 16 := fun q => h ⟨hx0, hx1, q, hz⟩; omega)), if_pos (by omega)]
        · rw [key _ _ (hap.1 hz), if_pos (by omega)]
    · refine ⟨fun h => absurd h.2.1 hx1, fun _ => ?_⟩
      simp (disch := omega) only [↓gfF, gfF, ↓vcF, vcF, zw64_id, ↓zcall_ok, zcall_ok, ↓zjn_ok, zjn_ok, ↓zbl_0, zbl_0, ↓zbl_1, zbl_1, ↓if_pos, if_pos, ↓if_neg, if_neg, ↓zb_ite, zb_ite, ↓zb_itn, zb_itn, ↓gf_5, gf_5, ↓pf_5, pf_5, ↓vc_5, vc_5, ↓gf_6, gf_6, ↓pf_6, pf_6, ↓vc_6, vc_6, if_true, if_false, not_true_eq_false, not_false_eq_true, zu_eq, zu_a, zu_j, ge_iff_le, gt_iff_lt, ne_eq, Int.cast_ofNat_Int, Int.add_zero, Int.zero_add, Int.reduceAdd, Int.reduceSub, Int.reduceMul, Int.reduceNeg, ↓gq_5_0 hG, ↓gq_5_1 hG, ↓gq_5_2 hG, ↓gq_5_3 hG, ↓gq_5_4 hG, ↓gq_5_5 hG, ↓gq_5_6 hG, ↓gq_6_0 hG, g_5_0 hG, g_5_1 hG, g_5_2 hG, g_5_3 hG, g_5_4 hG, g_5_5 hG, g_5_6 hG, g_6_0 hG]
  · refine ⟨fun h => absurd h.1 hx0, fun _ => ?_⟩
    simp (disch := omega) only [↓zcall_ok, zcall_ok, ↓zjn_ok, zjn_ok, ↓zbl_0, zbl_0, ↓zbl_1, zbl_1, ↓if_pos, if_pos, ↓if_neg, if_neg, ↓zb_ite, zb_ite, ↓zb_itn, zb_itn, ↓gf_5, gf_5, ↓pf_5, pf_5, ↓vc_5, vc_5, ↓gf_6, gf_6, ↓pf_6, pf_6, ↓vc_6, vc_6, if_true, if_false, not_true_eq_false, not_false_eq_true, zu_eq, zu_a, zu_j, ge_iff_le, gt_iff_lt, ne_eq, Int.cast_ofNat_Int, Int.add_zero, Int.zero_add, Int.reduceAdd, Int.reduceSub, Int.reduceMul, Int.reduceNeg, ↓gq_5_0 hG, ↓gq_5_1 hG, ↓gq_5_2 hG, ↓gq_5_3 hG, ↓gq_5_4 hG, ↓gq_5_5 hG, ↓gq_5_6 hG, ↓gq_6_0 hG, g_5_0 hG, g_5_1 hG, g_5_2 hG, g_5_3 hG, g_5_4 hG, g_5_5 hG, g_5_6 hG, g_6_0 hG]
