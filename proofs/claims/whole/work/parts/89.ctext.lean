/-! ===== the class reads a text ===== -/
def zTx (μ : zMem) (T : Nat → Int) (n : Nat) : Prop := zG0 μ ∧ μ 18 2 = n ∧ n ≤ 120 ∧ ∀ i : Nat, i < n → μ 19 i = T i ∧ 0 ≤ T i
def zoT (μ u : zMem) : Prop := ∀ a j : Int, ¬ (a = 18 ∧ 3 ≤ j ∧ j ≤ 5) → a ≠ 20 → u a j = μ a j
def zcd (u : zMem) (C : List Int) : Prop := u 18 3 = C.length ∧ ∀ (k : Nat) (c : Int), C[k]? = some c → u 20 k = c
set_option maxHeartbeats 400000 in
theorem zoT_r {μ : zMem} : zoT μ μ := fun _ _ _ _ => rfl
set_option maxHeartbeats 400000 in
theorem zoT_t {μ u w : zMem} (h : zoT μ u) (h' : zoT u w) : zoT μ w := fun a j q1 q2 => (h' a j q1 q2).trans (h a j q1 q2)
set_option maxHeartbeats 400000 in
theorem zoT_G0 {μ u : zMem} (h : zoT μ u) (hG : zG0 μ) : zG0 u := zG0_keep hG (fun a j hr => h a j (fun q => by
    obtain ⟨rfl, q1, q2⟩ := q
    rcases (show j = 3 ∨ j = 4 ∨ j = 5 by omega) with rfl | rfl | rfl <;> · revert hr; decide) (fun q => by
    subst q
    have : zrfs 20 j = false := rfl
    rw [this] at hr
    cases hr))
set_option maxHeartbeats 400000 in
theorem zoT_4 {u : zMem} {v : Int} : zoT u (zupd u 18 4 v) := fun a j q1 q2 => by unfold zupd; rw [if_neg (by omega)]
set_option maxHeartbeats 400000 in
theorem zoT_5 {u : zMem} {v : Int} : zoT u (zupd u 18 5 v) := fun a j q1 q2 => by unfold zupd; rw [if_neg (by omega)]
set_option maxHeartbeats 400000 in
theorem t_sign {μ u : zMem} {T : Nat → Int} {n a : Nat} (H : zTx μ T n) (hu : zoT μ u) (ha : u 18 4 = a) (hf : u 18 5 = -1) : fX9_sign 18 u = some (zgn T n a, u) := by
  obtain ⟨hG, h1, h2, h3⟩ := H
  have hGu := zoT_G0 hu hG
  have q2 : u 18 2 = n := (hu _ _ (by omega) (by omega)).trans h1
  unfold fX9_sign
  by_cases c : a < n
  · have q19 : u 19 a = T a := (hu _ _ (by omega) (by omega)).trans (h3 a c).1
    rw [zgn_i c]
    clear h3 hu
    simp (disch := omega) only [hf, ha, q2, q19, ↓zcall_ok, zcall_ok, ↓zjn_ok, zjn_ok, ↓zbl_0, zbl_0, ↓zbl_1, zbl_1, ↓if_pos, if_pos, ↓if_neg, if_neg, ↓zb_ite, zb_ite, ↓zb_itn, zb_itn, ↓gf_18, gf_18, ↓pf_18, pf_18, ↓vc_18, vc_18, ↓al_19, al_19, ↓as_19, as_19, ↓ln_19, ln_19, if_true, if_false, not_true_eq_false, not_false_eq_true, zu_eq, zu_a, zu_j, ge_iff_le, gt_iff_lt, ne_eq, Int.cast_ofNat_Int, Int.add_zero, Int.zero_add, Int.reduceAdd, Int.reduceSub, Int.reduceMul, Int.reduceNeg, ↓gq_18_0 hGu, ↓gq_18_1 hGu, g_18_0 hGu, g_18_1 hGu]
  · rw [zgn_o c]
    clear h3 hu
    simp (disch := omega) only [hf, ha, q2, ↓zcall_ok, zcall_ok, ↓zjn_ok, zjn_ok, ↓zbl_0, zbl_0, ↓zbl_1, zbl_1, ↓if_pos, if_pos, ↓if_neg, if_neg, ↓zb_ite, zb_ite, ↓zb_itn, zb_itn, ↓gf_18, gf_18, ↓pf_18, pf_18, ↓vc_18, vc_18, ↓al_19, al_19, ↓as_19, as_19, ↓ln_19, ln_19, if_true, if_false, not_true_eq_false, not_false_eq_true, zu_eq, zu_a, zu_j, ge_iff_le, gt_iff_lt, ne_eq, Int.cast_ofNat_Int, Int.add_zero, Int.zero_add, Int.reduceAdd, Int.reduceSub, Int.reduceMul, Int.reduceNeg, ↓gq_18_0 hGu, ↓gq_18_1 hGu, g_18_0 hGu, g_18_1 hGu]
set_option maxHeartbeats 400000 in
theorem t_sign_f {u : zMem} (hf : 0 ≤ u 18 5) : fX9_sign 18 u = some (-1, u) := by
  unfold fX9_sign
  simp (disch := omega) only [↓zcall_ok, zcall_ok, ↓zjn_ok, zjn_ok, ↓zbl_0, zbl_0, ↓zbl_1, zbl_1, ↓if_pos, if_pos, ↓if_neg, if_neg, ↓zb_ite, zb_ite, ↓zb_itn, zb_itn, ↓gf_18, gf_18, ↓pf_18, pf_18, ↓vc_18, vc_18, if_true, if_false, not_true_eq_false, not_false_eq_true, zu_eq, zu_a, zu_j, ge_iff_le, gt_iff_lt, ne_eq, Int.cast_ofNat_Int, Int.add_zero, Int.zero_add, Int.reduceAdd, Int.reduceSub, Int.reduceMul, Int.reduceNeg]
set_option maxHeartbeats 400000 in
theorem t_passes {μ u : zMem} {T : Nat → Int} {n a : Nat} {w : Int} (H : zTx μ T n) (hu : zoT μ u) (ha : u 18 4 = a) (ha2 : a ≤ n) (hf : u 18 5 = -1) : fX9_passes 18 w u = if zgn T n a = w then some (1, zupd u 18 4 ((a + 1 : Nat) : Int)) else some (0, u) := by
  have e := t_sign H hu ha hf
  have h2 := H.2.2.1
  unfold fX9_passes
  by_cases c : zgn T n a = w
  · rw [if_pos c]
    clear H hu
    simp (disch := omega) only [↓(vq_18 e), ha, zupn, ↓zcall_ok, zcall_ok, ↓zjn_ok, zjn_ok, ↓zbl_0, zbl_0, ↓zbl_1, zbl_1, ↓if_pos, if_pos, ↓if_neg, if_neg, ↓zb_ite, zb_ite, ↓zb_itn, zb_itn, ↓gf_18, gf_18, ↓pf_18, pf_18, ↓vc_18, vc_18, if_true, if_false, not_true_eq_false, not_false_eq_true, zu_eq, zu_a, zu_j, ge_iff_le, gt_iff_lt, ne_eq, Int.cast_ofNat_Int, Int.add_zero, Int.zero_add, Int.reduceAdd, Int.reduceSub, Int.reduceMul, Int.reduceNeg]
  · rw [if_neg c]
    clear H hu
    simp (disch := omega) only [↓(vq_18 e), ↓zcall_ok, zcall_ok, ↓zjn_ok, zjn_ok, ↓zbl_0, zbl_0, ↓zbl_1, zbl_1, ↓if_pos, if_pos, ↓if_neg, if_neg, ↓zb_ite, zb_ite, ↓zb_itn, zb_itn, ↓gf_18, gf_18, ↓pf_18, pf_18, ↓vc_18, vc_18, if_true, if_false, not_true_eq_false, not_false_eq_true, zu_eq, zu_a, zu_j, ge_iff_le, gt_iff_lt, ne_eq, Int.cast_ofNat_Int, Int.add_zero, Int.zero_add, Int.reduceAdd, Int.reduceSub, Int.reduceMul, Int.reduceNeg]
set_option maxHeartbeats 400000 in
theorem t_passes_f {u : zMem} {w : Int} (hf : 0 ≤ u 18 5) (hw : 0 ≤ w) : fX9_passes 18 w u = some (0, u) := by
  have e := t_sign_f hf
  unfold fX9_passes
  simp (disch := omega) only [↓(vq_18 e), ↓zcall_ok, zcall_ok, ↓zjn_ok, zjn_ok, ↓zbl_0, zbl_0, ↓zbl_1, zbl_1, ↓if_pos, if_pos, ↓if_neg, if_neg, ↓zb_ite, zb_ite, ↓zb_itn, zb_itn, ↓gf_18, gf_18, ↓pf_18, pf_18, ↓vc_18, vc_18, if_true, if_false, not_true_eq_false, not_false_eq_true, zu_eq, zu_a, zu_j, ge_iff_le, gt_iff_lt, ne_eq, Int.cast_ofNat_Int, Int.add_zero, Int.zero_add, Int.reduceAdd, Int.reduceSub, Int.reduceMul, Int.reduceNeg]
set_option maxHeartbeats 400000 in
theorem t_one {μ u : zMem} {T : Nat → Int} {n a : Nat} {x y z : Int} {sg : Int → Bool} (hx : 0 ≤ x) (hy : 0 ≤ y) (hz : 0 ≤ z) (hsg : ∀ g, sg g = true ↔ g = x ∨ g = y ∨ g = z) (H : zTx μ T n) (hu : zoT μ u) (ha : u 18 4 = a) (ha2 : a ≤ n) (hf : u 18 5 = -1) :
    fX9_passesOneOf 18 x y z u = if sg (zgn T n a) = true then some (zgn T n a, zupd u 18 4 ((a + 1 : Nat) : Int)) else some (-1, u) := by
  have e := t_sign H hu ha hf
  have e2 := t_passes (w := zgn T n a) H hu ha ha2 hf
  rw [if_pos rfl] at e2
  have hg := hsg (zgn T n a)
  unfold fX9_passesOneOf
  by_cases c : sg (zgn T n a) = true
  · rw [if_pos c]
    have hc := hg.1 c
    have h0 : ¬ zgn T n a < 0 := by omega
    clear H hu hg hsg
    generalize zgn T n a = g at *
    by_cases c1 : g = x
    · simp (disch := omega) only [↓(vq_18 e), ↓(vq_18 e2), ↓zcall_ok, zcall_ok, ↓zjn_ok, zjn_ok, ↓zbl_0, zbl_0, ↓zbl_1, zbl_1, ↓if_pos, if_pos, ↓if_neg, if_neg, ↓zb_ite, zb_ite, ↓zb_itn, zb_itn, ↓gf_18, gf_18, ↓pf_18, pf_18, ↓vc_18, vc_18, if_true, if_false, not_true_eq_false, not_false_eq_true, zu_eq, zu_a, zu_j, ge_iff_le, gt_iff_lt, ne_eq, Int.cast_ofNat_Int, Int.add_zero, Int.zero_add, Int.reduceAdd, Int.reduceSub, Int.reduceMul, Int.reduceNeg]
    by_cases c2 : g = y
    · simp (disch := omega) only [↓(vq_18 e), ↓(vq_18 e2), ↓zcall_ok, zcall_ok, ↓zjn_ok, zjn_ok, ↓zbl_0, zbl_0, ↓zbl_1, zbl_1, ↓if_pos, if_pos, ↓if_neg, if_neg, ↓zb_ite, zb_ite, ↓zb_itn, zb_itn, ↓gf_18, gf_18, ↓pf_18, pf_18, ↓vc_18, vc_18, if_true, if_false, not_true_eq_false, not_false_eq_true, zu_eq, zu_a, zu_j, ge_iff_le, gt_iff_lt, ne_eq, Int.cast_ofNat_Int, Int.add_zero, Int.zero_add, Int.reduceAdd, Int.reduceSub, Int.reduceMul, Int.reduceNeg]
    · simp (disch := omega) only [↓(vq_18 e), ↓(vq_18 e2), ↓zcall_ok, zcall_ok, ↓zjn_ok, zjn_ok, ↓zbl_0, zbl_0, ↓zbl_1, zbl_1, ↓if_pos, if_pos, ↓if_neg, if_neg, ↓zb_ite, zb_ite, ↓zb_itn, zb_itn, ↓gf_18, gf_18, ↓pf_18, pf_18, ↓vc_18, vc_18, if_true, if_false, not_true_eq_false, not_false_eq_true, zu_eq, zu_a, zu_j, ge_iff_le, gt_iff_lt, ne_eq, Int.cast_ofNat_Int, Int.add_zero, Int.zero_add, Int.reduceAdd, Int.reduceSub, Int.reduceMul, Int.reduceNeg]
  · rw [if_neg c]
    have hc : ¬ (zgn T n a = x ∨ zgn T n a = y ∨ zgn T n a = z) := fun q => c (hg.2 q)
    clear H hu hg hsg c
    generalize zgn T n a = g at *
    by_cases c0 : g < 0
    · simp (disch := omega) only [↓(vq_18 e), ↓zcall_ok, zcall_ok, ↓zjn_ok, zjn_ok, ↓zbl_0, zbl_0, ↓zbl_1, zbl_1, ↓if_pos, if_pos, ↓if_neg, if_neg, ↓zb_ite, zb_ite, ↓zb_itn, zb_itn, ↓gf_18, gf_18, ↓pf_18, pf_18, ↓vc_18, vc_18, if_true, if_false, not_true_eq_false, not_false_eq_true, zu_eq, zu_a, zu_j, ge_iff_le, gt_iff_lt, ne_eq, Int.cast_ofNat_Int, Int.add_zero, Int.zero_add, Int.reduceAdd, Int.reduceSub, Int.reduceMul, Int.reduceNeg]
    · simp (disch := omega) only [↓(vq_18 e), ↓zcall_ok, zcall_ok, ↓zjn_ok, zjn_ok, ↓zbl_0, zbl_0, ↓zbl_1, zbl_1, ↓if_pos, if_pos, ↓if_neg, if_neg, ↓zb_ite, zb_ite, ↓zb_itn, zb_itn, ↓gf_18, gf_18, ↓pf_18, pf_18, ↓vc_18, vc_18, if_true, if_false, not_true_eq_false, not_false_eq_true, zu_eq, zu_a, zu_j, ge_iff_le, gt_iff_lt, ne_eq, Int.cast_ofNat_Int, Int.add_zero, Int.zero_add, Int.reduceAdd, Int.reduceSub, Int.reduceMul, Int.reduceNeg]
set_option maxHeartbeats 400000 in
theorem t_one_f {u : zMem} {x y z : Int} (hf : 0 ≤ u 18 5) : fX9_passesOneOf 18 x y z u = some (-1, u) := by
  have e := t_sign_f hf
  unfold fX9_passesOneOf
  simp (disch := omega) only [↓(vq_18 e), ↓zcall_ok, zcall_ok, ↓zjn_ok, zjn_ok, ↓zbl_0, zbl_0, ↓zbl_1, zbl_1, ↓if_pos, if_pos, ↓if_neg, if_neg, ↓zb_ite, zb_ite, ↓zb_itn, zb_itn, ↓gf_18, gf_18, ↓pf_18, pf_18, ↓vc_18, vc_18, if_true, if_false, not_true_eq_false, not_false_eq_true, zu_eq, zu_a, zu_j, ge_iff_le, gt_iff_lt, ne_eq, Int.cast_ofNat_Int, Int.add_zero, Int.zero_add, Int.reduceAdd, Int.reduceSub, Int.reduceMul, Int.reduceNeg]
set_option maxHeartbeats 400000 in
theorem t_code {u : zMem} {C : List Int} {v : Int} (hG : zG0 u) (hC : zcd u C) (hl : C.length < 121) : ∃ u', fX9_code 18 v u = some (0, u') ∧ zoT u u' ∧ u' 18 4 = u 18 4 ∧ u' 18 5 = u 18 5 ∧ zcd u' (C ++ [v]) := by
  obtain ⟨c1, c2⟩ := hC
  refine ⟨zupd (zupd u 20 C.length v) 18 3 ((C.length : Int) + 1), ?_, fun a j q1 q2 => ?_, ?_, ?_, ?_, fun k c hk => ?_⟩
  · unfold fX9_code
    clear c2
    simp (disch := omega) only [c1, zw32_id, ↓zcall_ok, zcall_ok, ↓zjn_ok, zjn_ok, ↓zbl_0, zbl_0, ↓zbl_1, zbl_1, ↓if_pos, if_pos, ↓if_neg, if_neg, ↓zb_ite, zb_ite, ↓zb_itn, zb_itn, ↓gf_18, gf_18, ↓pf_18, pf_18, ↓vc_18, vc_18, ↓al_20, al_20, ↓as_20, as_20, ↓ln_20, ln_20, if_true, if_false, not_true_eq_false, not_false_eq_true, zu_eq, zu_a, zu_j, ge_iff_le, gt_iff_lt, ne_eq, Int.cast_ofNat_Int, Int.add_zero, Int.zero_add, Int.reduceAdd, Int.reduceSub, Int.reduceMul, Int.reduceNeg, ↓gq_18_0 hG, ↓gq_18_1 hG, g_18_0 hG, g_18_1 hG]
  · unfold zupd; rw [if_neg (by omega), if_neg (by omega)]
  · unfold zupd; rw [if_neg (by omega), if_neg (by omega)]
  · unfold zupd; rw [if_neg (by omega), if_neg (by omega)]
  · rw [zu_eq, List.length_append]; simp
  · rw [zu_a (by decide)]
    rw [List.getElem?_append] at hk
    by_cases q : k < C.length
    · rw [if_pos q] at hk
      rw [zu_j (by omega)]
      exact c2 k c hk
    · rw [if_neg q] at hk
      have hl := (List.getElem?_eq_some_iff.mp hk).1
      have hk0 : k = C.length := by simp at hl; omega
      subst hk0
      rw [Nat.sub_self] at hk
      rw [zu_eq]
      exact Option.some.inj hk
set_option maxHeartbeats 400000 in
theorem t_code_f {u : zMem} {v : Int} (hG : zG0 u) (h0 : 0 ≤ u 18 3) (h1 : u 18 3 ≤ 121) : ∃ u', fX9_code 18 v u = some (0, u') ∧ zoT u u' ∧ u' 18 4 = u 18 4 ∧ u' 18 5 = u 18 5 ∧ 0 ≤ u' 18 3 ∧ u' 18 3 ≤ 121 := by
  unfold fX9_code
  by_cases c : u 18 3 ≥ 121
  · refine ⟨u, ?_, zoT_r, rfl, rfl, h0, h1⟩
    simp (disch := omega) only [↓zcall_ok, zcall_ok, ↓zjn_ok, zjn_ok, ↓zbl_0, zbl_0, ↓zbl_1, zbl_1, ↓if_pos, if_pos, ↓if_neg, if_neg, ↓zb_ite, zb_ite, ↓zb_itn, zb_itn, ↓gf_18, gf_18, ↓pf_18, pf_18, ↓vc_18, vc_18, if_true, if_false, not_true_eq_false, not_false_eq_true, zu_eq, zu_a, zu_j, ge_iff_le, gt_iff_lt, ne_eq, Int.cast_ofNat_Int, Int.add_zero, Int.zero_add, Int.reduceAdd, Int.reduceSub, Int.reduceMul, Int.reduceNeg]
  · refine ⟨zupd (zupd u 20 (u 18 3) v) 18 3 (u 18 3 + 1), ?_, fun a j q1 q2 => ?_, ?_, ?_, ?_, ?_⟩
    · simp (disch := omega) only [zw32_id, ↓zcall_ok, zcall_ok, ↓zjn_ok, zjn_ok, ↓zbl_0, zbl_0, ↓zbl_1, zbl_1, ↓if_pos, if_pos, ↓if_neg, if_neg, ↓zb_ite, zb_ite, ↓zb_itn, zb_itn, ↓gf_18, gf_18, ↓pf_18, pf_18, ↓vc_18, vc_18, ↓al_20, al_20, ↓as_20, as_20, ↓ln_20, ln_20, if_true, if_false, not_true_eq_false, not_false_eq_true, zu_eq, zu_a, zu_j, ge_iff_le, gt_iff_lt, ne_eq, Int.cast_ofNat_Int, Int.add_zero, Int.zero_add, Int.reduceAdd, Int.reduceSub, Int.reduceMul, Int.reduceNeg, ↓gq_18_0 hG, ↓gq_18_1 hG, g_18_0 hG, g_18_1 hG]
    · unfold zupd; rw [if_neg (by omega), if_neg (by omega)]
    · unfold zupd; rw [if_neg (by omega), if_neg (by omega)]
    · unfold zupd; rw [if_neg (by omega), if_neg (by omega)]
    · rw [zu_eq]; omega
    · rw [zu_eq]; omega
set_option maxHeartbeats 400000 in
theorem t_emit {u : zMem} {C : List Int} {v : Int} (hG : zG0 u) (hC : zcd u C) (hl : C.length < 121) (h0 : 0 ≤ v) (h1 : v < 100000) : ∃ u', fX9_emit 18 v u = some (0, u') ∧ zoT u u' ∧ u' 18 4 = u 18 4 ∧ u' 18 5 = u 18 5 ∧ zcd u' (C ++ [10000 + v]) := by
  obtain ⟨u', e1, e2⟩ := t_code (v := 10000 + v) hG hC hl
  refine ⟨u', ?_, e2⟩
  unfold fX9_emit
  rw [zw32_id (by omega) (by omega), vq_18 e1]
set_option maxHeartbeats 400000 in
theorem t_emit_f {u : zMem} {v : Int} (hG : zG0 u) (h0 : 0 ≤ u 18 3) (h1 : u 18 3 ≤ 121) : ∃ u', fX9_emit 18 v u = some (0, u') ∧ zoT u u' ∧ u' 18 4 = u 18 4 ∧ u' 18 5 = u 18 5 ∧ 0 ≤ u' 18 3 ∧ u' 18 3 ≤ 121 := by
  obtain ⟨u', e1, e2⟩ := t_code_f (v := zw32 (10000 + v)) hG h0 h1
  refine ⟨u', ?_, e2⟩
  unfold fX9_emit
  rw [vq_18 e1]
set_option maxHeartbeats 400000 in
theorem t_fail {u : zMem} {a : Nat} (ha : u 18 4 = a) (hf : u 18 5 = -1) : fX9_fail 18 u = some (0, zupd u 18 5 a) := by
  unfold fX9_fail
  simp (disch := omega) only [hf, ha, ↓zcall_ok, zcall_ok, ↓zjn_ok, zjn_ok, ↓zbl_0, zbl_0, ↓zbl_1, zbl_1, ↓if_pos, if_pos, ↓if_neg, if_neg, ↓zb_ite, zb_ite, ↓zb_itn, zb_itn, ↓gf_18, gf_18, ↓pf_18, pf_18, ↓vc_18, vc_18, if_true, if_false, not_true_eq_false, not_false_eq_true, zu_eq, zu_a, zu_j, ge_iff_le, gt_iff_lt, ne_eq, Int.cast_ofNat_Int, Int.add_zero, Int.zero_add, Int.reduceAdd, Int.reduceSub, Int.reduceMul, Int.reduceNeg]
set_option maxHeartbeats 400000 in
theorem t_fail_f {u : zMem} (hf : 0 ≤ u 18 5) : fX9_fail 18 u = some (0, u) := by
  unfold fX9_fail
  simp (disch := omega) only [↓zcall_ok, zcall_ok, ↓zjn_ok, zjn_ok, ↓zbl_0, zbl_0, ↓zbl_1, zbl_1, ↓if_pos, if_pos, ↓if_neg, if_neg, ↓zb_ite, zb_ite, ↓zb_itn, zb_itn, ↓gf_18, gf_18, ↓pf_18, pf_18, ↓vc_18, vc_18, if_true, if_false, not_true_eq_false, not_false_eq_true, zu_eq, zu_a, zu_j, ge_iff_le, gt_iff_lt, ne_eq, Int.cast_ofNat_Int, Int.add_zero, Int.zero_add, Int.reduceAdd, Int.reduceSub, Int.reduceMul, Int.reduceNeg]
def zCl (μ : zMem) (X : zMem → zRs) (g : Nat) (u : zMem) : Prop := ∃ u', X u = some (0, u') ∧ zoT μ u' ∧ u' 18 5 = g ∧ 0 ≤ u' 18 3 ∧ u' 18 3 ≤ 121
def zCr (μ : zMem) (X : zMem → zRs) (a' : Nat) (D : List Int) (u : zMem) : Prop := ∃ u', X u = some (0, u') ∧ zoT μ u' ∧ u' 18 4 = a' ∧ u' 18 5 = -1 ∧ zcd u' D
/-- a method reads as the pure parser does -/
def zCI (μ : zMem) (n : Nat) (f : Nat → zRp) (X : zMem → zRs) : Prop :=
  (∀ (u : zMem) (a : Nat) (C : List Int), zoT μ u → u 18 4 = a → u 18 5 = -1 → zcd u C → a ≤ n → C.length ≤ a → (∀ g, f a = .inl g → zCl μ X g u) ∧ ∀ a' cs, f a = .inr (a', cs) → zCr μ X a' (C ++ cs) u) ∧
  ∀ u : zMem, zoT μ u → 0 ≤ u 18 5 → X u = some (0, u)
set_option maxHeartbeats 400000 in
theorem zcd_of {u u' : zMem} {C : List Int} (h : zcd u C) (h3 : u' 18 3 = u 18 3) (h20 : ∀ j : Int, u' 20 j = u 20 j) : zcd u' C := ⟨h3.trans h.1, fun k c hk => (h20 k).trans (h.2 k c hk)⟩
set_option maxHeartbeats 400000 in
theorem zcd_4 {u : zMem} {C : List Int} {v : Int} (h : zcd u C) : zcd (zupd u 18 4 v) C := zcd_of h (zu_j (by decide)) (fun _ => zu_a (by decide))
/- either and both: the loop -/
set_option maxHeartbeats 400000 in
theorem t_loopA {μ : zMem} {T : Nat → Int} {n : Nat} {sub : Nat → zRp} {S : zMem → zRs} {w : Int} {sg : Int → Bool} (H : zTx μ T n) (hgd : zgd n sub) (hS : zCI μ n sub S) (w0 : 0 ≤ w) (w1 : w < 1000) (hsg : ∀ g, sg g = true ↔ g = w) :
    (∀ (u : zMem) (a : Nat) (C : List Int), zoT μ u → u 18 4 = a → u 18 5 = -1 → zcd u C → a ≤ n → C.length ≤ a →
      (∀ g, zlL sub sg (zgn T n) 120 a = .inl g → zCl μ (fun u1 => zlp (fun _ _ => none) (fun k4 (v2 : Int) (u3 : zMem) => if v2 ≥ 120 then (some (0, u3)) else (zvc 9 18 (fX9_passes 18 w u3) (fun v5 u6 => if v5 = 0 then (some (0, u6)) else (zvc 9 18 (S u6) (fun _ u7 => zvc 9 18 (fX9_emit 18 w u7) (fun _ u8 => k4 (zw32 (v2 + 1)) u8)))))) 1000000 0 u1) g u) ∧
      ∀ a' cs, zlL sub sg (zgn T n) 120 a = .inr (a', cs) → zCr μ (fun u1 => zlp (fun _ _ => none) (fun k4 (v2 : Int) (u3 : zMem) => if v2 ≥ 120 then (some (0, u3)) else (zvc 9 18 (fX9_passes 18 w u3) (fun v5 u6 => if v5 = 0 then (some (0, u6)) else (zvc 9 18 (S u6) (fun _ u7 => zvc 9 18 (fX9_emit 18 w u7) (fun _ u8 => k4 (zw32 (v2 + 1)) u8)))))) 1000000 0 u1) a' (C ++ cs) u) ∧
    ∀ u : zMem, zoT μ u → 0 ≤ u 18 5 → zlp (fun _ _ => none) (fun k4 (v2 : Int) (u3 : zMem) => if v2 ≥ 120 then (some (0, u3)) else (zvc 9 18 (fX9_passes 18 w u3) (fun v5 u6 => if v5 = 0 then (some (0, u6)) else (zvc 9 18 (S u6) (fun _ u7 => zvc 9 18 (fX9_emit 18 w u7) (fun _ u8 => k4 (zw32 (v2 + 1)) u8)))))) 1000000 0 u = some (0, u) := by
  have h120 := H.2.2.1
  have key := zlp_meas (bot := fun (_ : Int) (_ : zMem) => (none : zRs)) (F := fun k4 (v2 : Int) (u3 : zMem) => if v2 ≥ 120 then (some (0, u3)) else (zvc 9 18 (fX9_passes 18 w u3) (fun v5 u6 => if v5 = 0 then (some (0, u6)) else (zvc 9 18 (S u6) (fun _ u7 => zvc 9 18 (fX9_emit 18 w u7) (fun _ u8 => k4 (zw32 (v2 + 1)) u8))))))
    (fun m (f : Int → zMem → zRs) => ∀ (k : Nat) (v : Int), 0 ≤ v → v + (k : Int) = 120 → k < m →
      (∀ (u : zMem) (a : Nat) (C : List Int), zoT μ u → u 18 4 = a → u 18 5 = -1 → zcd u C → a ≤ n → C.length ≤ a → (∀ g, zlL sub sg (zgn T n) k a = .inl g → zCl μ (f v) g u) ∧ ∀ a' cs, zlL sub sg (zgn T n) k a = .inr (a', cs) → zCr μ (f v) a' (C ++ cs) u) ∧
      ∀ u : zMem, zoT μ u → 0 ≤ u 18 5 → f v u = some (0, u))
    (fun k v _ _ h => absurd h (Nat.not_lt_zero _)) (fun m f ih k v hv0 hv hk => ?_) 1000000 120 0 (Int.le_refl _) (by decide) (by omega)
  · exact key
  · cases k with
    | zero =>
      have hge : v ≥ 120 := by omega
      refine ⟨fun u a C hu ha hf hC ha2 hCl => ⟨fun g h => (by cases h), fun a' cs h => ?_⟩, fun u hu hf => if_pos hge⟩
      cases h
      rw [List.append_nil]
      exact ⟨u, if_pos hge, hu, ha, hf, hC⟩
    | succ k =>
      have hlt : ¬ v ≥ 120 := by omega
      have hup : zw32 (v + 1) = v + 1 := zw32_id (by omega) (by omega)
      obtain ⟨ih1, ih2⟩ := ih k (v + 1) (by omega) (by omega) (by omega)
      refine ⟨fun u a C hu ha hf hC ha2 hCl => ?_, fun u hu hf => ?_⟩
      · have hp := t_passes (w := w) H hu ha ha2 hf
        unfold zlL
        by_cases c : sg (zgn T n a) = true
        · have hc := (hsg _).1 c
          have haN := zgn_lt (T := T) (n := n) (a := a) (by omega)
          rw [if_pos hc] at hp
          rw [if_pos c]
          have hu1 := zoT_t hu (zoT_4 (v := ((a + 1 : Nat) : Int)))
          obtain ⟨s1, s2⟩ := hS.1 _ (a + 1) C hu1 zu_eq ((zu_j (by decide)).trans hf) (zcd_4 hC) (by omega) (by omega)
          cases e : sub (a + 1) with
          | inl g =>
            rw [zpB_l]
            refine ⟨fun g' h => ?_, fun a' cs h => (by cases h)⟩
            cases h
            obtain ⟨u2, b1, b2, b3, b4, b5⟩ := s1 g e
            obtain ⟨u3, d1, d2, d3, d4, d5, d6⟩ := t_emit_f (v := w) (zoT_G0 b2 H.1) b4 b5
            refine ⟨u3, ?_, zoT_t b2 d2, d4.trans b3, d5, d6⟩
            show (if v ≥ 120 then _ else _) = _
            rw [if_neg hlt, vq_18 hp, if_neg (by decide), vq_18 b1, vq_18 d1, hup]
            exact ih2 u3 (zoT_t b2 d2) (by omega)
          | inr q =>
            obtain ⟨a', cs⟩ := q
            obtain ⟨t1, t2, -⟩ := (hgd (a + 1) (by omega)).2 a' cs e
            obtain ⟨u2, b1, b2, b3, b4, b5⟩ := s2 a' cs e
            obtain ⟨u3, d1, d2, d3, d4, d5⟩ := t_emit (v := w) (zoT_G0 b2 H.1) b5 (by rw [List.length_append]; omega) w0 (by omega)
            obtain ⟨r1, r2⟩ := ih1 u3 a' ((C ++ cs) ++ [10000 + w]) (zoT_t b2 d2) (d3.trans b3) (d4.trans b4) d5 t2 (by rw [List.length_append, List.length_append]; simp; omega)
            have go : ∀ x, f (v + 1) u3 = x → (if v ≥ 120 then (some (0, u)) else (zvc 9 18 (fX9_passes 18 w u) (fun v5 u6 => if v5 = 0 then (some (0, u6)) else (zvc 9 18 (S u6) (fun _ u7 => zvc 9 18 (fX9_emit 18 w u7) (fun _ u8 => f (zw32 (v + 1)) u8)))))) = x := fun x hx => by
              rw [if_neg hlt, vq_18 hp, if_neg (by decide), vq_18 b1, vq_18 d1, hup, hx]
            rw [zpB_r]
            cases e2 : zlL sub sg (zgn T n) k a' with
            | inl g =>
              refine ⟨fun g' h => ?_, fun a' cs h => (by cases h)⟩
              cases h
              obtain ⟨u4, q1, q2⟩ := r1 g e2
              exact ⟨u4, go _ q1, q2⟩
            | inr q =>
              obtain ⟨a'', ds⟩ := q
              refine ⟨fun g' h => (by cases h), fun x xs h => ?_⟩
              rw [zpB_r] at h
              cases h
              obtain ⟨u4, q1, q2⟩ := r2 a'' ds e2
              refine ⟨u4, go _ q1, ?_⟩
              rw [List.append_assoc, List.append_assoc, List.singleton_append] at q2
              rw [hc]
              exact q2
        · have hc : ¬ zgn T n a = w := fun q => c ((hsg _).2 q)
          rw [if_neg hc] at hp
          rw [if_neg c]
          refine ⟨fun g h => (by cases h), fun a' cs h => ?_⟩
          cases h
          rw [List.append_nil]
          refine ⟨u, ?_, hu, ha, hf, hC⟩
          show (if v ≥ 120 then _ else _) = _
          rw [if_neg hlt, vq_18 hp, if_pos rfl]
      · show (if v ≥ 120 then _ else _) = _
        rw [if_neg hlt, vq_18 (t_passes_f hf w0), if_pos rfl]
/- what comes behind: a first part, then the loop -/
set_option maxHeartbeats 400000 in
theorem t_seq {μ : zMem} {T : Nat → Int} {n : Nat} {sub : Nat → zRp} {sg : Int → Bool} {S Lp : zMem → zRs} (hgd : zgd n sub) (hS : zCI μ n sub S)
    (hL : (∀ (u : zMem) (a : Nat) (C : List Int), zoT μ u → u 18 4 = a → u 18 5 = -1 → zcd u C → a ≤ n → C.length ≤ a → (∀ g, zlL sub sg (zgn T n) 120 a = .inl g → zCl μ Lp g u) ∧ ∀ a' cs, zlL sub sg (zgn T n) 120 a = .inr (a', cs) → zCr μ Lp a' (C ++ cs) u) ∧ ∀ u : zMem, zoT μ u → 0 ≤ u 18 5 → Lp u = some (0, u)) :
    zCI μ n (zch sub sg (zgn T n)) (fun u => zvc 9 18 (S u) (fun _ u1 => Lp u1)) := by
  refine ⟨fun u a C hu ha hf hC ha2 hCl => ?_, fun u hu hf => ?_⟩
  · obtain ⟨s1, s2⟩ := hS.1 u a C hu ha hf hC ha2 hCl
    unfold zch
    cases e : sub a with
    | inl g =>
      rw [zpB_l]
      refine ⟨fun g' h => ?_, fun a' cs h => (by cases h)⟩
      cases h
      obtain ⟨u2, b1, b2, b3, b4, b5⟩ := s1 g e
      refine ⟨u2, ?_, b2, b3, b4, b5⟩
      show zvc 9 18 (S u) _ = _
      rw [vq_18 b1]
      exact hL.2 u2 b2 (by omega)
    | inr q =>
      obtain ⟨a', cs⟩ := q
      obtain ⟨t1, t2, -⟩ := (hgd a ha2).2 a' cs e
      obtain ⟨u2, b1, b2, b3, b4, b5⟩ := s2 a' cs e
      obtain ⟨r1, r2⟩ := hL.1 u2 a' (C ++ cs) b2 b3 b4 b5 t2 (by rw [List.length_append]; omega)
      rw [zpB_r]
      cases e2 : zlL sub sg (zgn T n) 120 a' with
      | inl g =>
        refine ⟨fun g' h => ?_, fun a' cs h => (by cases h)⟩
        cases h
        obtain ⟨u4, q1, q2⟩ := r1 g e2
        refine ⟨u4, ?_, q2⟩
        show zvc 9 18 (S u) _ = _
        rw [vq_18 b1]
        exact q1
      | inr q =>
        obtain ⟨a'', ds⟩ := q
        refine ⟨fun g' h => (by cases h), fun x xs h => ?_⟩
        rw [zpB_r] at h
        cases h
        obtain ⟨u4, q1, q2⟩ := r2 a'' ds e2
        refine ⟨u4, ?_, ?_⟩
        · show zvc 9 18 (S u) _ = _
          rw [vq_18 b1]
          exact q1
        · rw [← List.append_assoc]
          exact q2
  · show zvc 9 18 (S u) _ = _
    rw [vq_18 (hS.2 u hu hf)]
    exact hL.2 u hu hf
