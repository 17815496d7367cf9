/-! ===== told ===== -/
def zlt (f : Nat → Bool) (e : Nat → zEn) : Nat → List zEn
  | 0 => []
  | n + 1 => if f n = true then zlt f e n ++ [e n] else zlt f e n
set_option maxHeartbeats 400000 in
theorem zlt_t {f : Nat → Bool} {e : Nat → zEn} {n : Nat} (h : f n = true) : zlt f e (n + 1) = zlt f e n ++ [e n] := if_pos h
set_option maxHeartbeats 400000 in
theorem zlt_f {f : Nat → Bool} {e : Nat → zEn} {n : Nat} (h : f n = false) : zlt f e (n + 1) = zlt f e n := if_neg (by rw [h]; decide)
set_option maxHeartbeats 400000 in
theorem zlt_len {f : Nat → Bool} {e : Nat → zEn} : ∀ n, (zlt f e n).length ≤ n
  | 0 => Nat.le_refl _
  | n + 1 => by
    have ih := zlt_len (f := f) (e := e) n
    cases h : f n with
    | true => rw [zlt_t h, List.length_append]; simp; omega
    | false => rw [zlt_f h]; omega
set_option maxHeartbeats 400000 in
theorem zlt_ok {f : Nat → Bool} {e : Nat → zEn} {N : Int} : ∀ n : Nat, n ≤ 16 → (∀ i : Nat, i < n → zeok N (e i) ∧ (e i).1 = i) → zlok N (zlt f e n) ∧ ∀ a ∈ zlt f e n, a.1 < n
  | 0, _, _ => ⟨⟨Nat.zero_le _, fun e h => absurd h (by simp [zlt]), List.Pairwise.nil⟩, fun e h => absurd h (by simp [zlt])⟩
  | n + 1, hn, h => by
    obtain ⟨⟨h1, h2, h3⟩, h4⟩ := zlt_ok (f := f) (e := e) (N := N) n (by omega) (fun i hi => h i (by omega))
    have hl := zlt_len (f := f) (e := e) (n + 1)
    cases hf : f n with
    | true =>
      have hln := zlt_len (f := f) (e := e) n
      rw [zlt_t hf]
      refine ⟨⟨by rw [List.length_append]; simp; omega, fun a ha => ?_, ?_⟩, fun a ha => ?_⟩
      · rcases List.mem_append.mp ha with q | q
        · exact h2 a q
        · rw [List.mem_singleton.mp q]
          exact (h n (by omega)).1
      · rw [List.pairwise_append]
        refine ⟨h3, List.pairwise_singleton _ _, fun a ha b hb => ?_⟩
        rw [List.mem_singleton.mp hb, (h n (by omega)).2]
        have := h4 a ha
        omega
      · rcases List.mem_append.mp ha with q | q
        · have := h4 a q; omega
        · rw [List.mem_singleton.mp q, (h n (by omega)).2]; omega
    | false =>
      rw [zlt_f hf]
      exact ⟨⟨by omega, h2, h3⟩, fun a ha => by have := h4 a ha; omega⟩
set_option maxHeartbeats 400000 in
theorem s3_has {μ : zMem} (w : Int) : fX3_has 21 w μ = some (zb (0 ≤ w ∧ w < μ 21 3), μ) := by
  unfold fX3_has
  by_cases c0 : w < 0
  · simp (disch := omega) only [zb_f, ↓zcall_ok, zcall_ok, ↓zjn_ok, zjn_ok, ↓zbl_0, zbl_0, ↓zbl_1, zbl_1, ↓if_pos, if_pos, ↓if_neg, if_neg, ↓zb_ite, zb_ite, ↓zb_itn, zb_itn, ↓gf_21, gf_21, ↓pf_21, pf_21, ↓vc_21, vc_21, if_true, if_false, not_true_eq_false, not_false_eq_true, zu_eq, zu_a, zu_j, ge_iff_le, gt_iff_lt, ne_eq, Int.cast_ofNat_Int, Int.add_zero, Int.zero_add, Int.reduceAdd, Int.reduceSub, Int.reduceMul, Int.reduceNeg]
  · by_cases c1 : w < μ 21 3
    · simp (disch := omega) only [zb_t, ↓zcall_ok, zcall_ok, ↓zjn_ok, zjn_ok, ↓zbl_0, zbl_0, ↓zbl_1, zbl_1, ↓if_pos, if_pos, ↓if_neg, if_neg, ↓zb_ite, zb_ite, ↓zb_itn, zb_itn, ↓gf_21, gf_21, ↓pf_21, pf_21, ↓vc_21, vc_21, if_true, if_false, not_true_eq_false, not_false_eq_true, zu_eq, zu_a, zu_j, ge_iff_le, gt_iff_lt, ne_eq, Int.cast_ofNat_Int, Int.add_zero, Int.zero_add, Int.reduceAdd, Int.reduceSub, Int.reduceMul, Int.reduceNeg]
    · simp (disch := omega) only [zb_f, ↓zcall_ok, zcall_ok, ↓zjn_ok, zjn_ok, ↓zbl_0, zbl_0, ↓zbl_1, zbl_1, ↓if_pos, if_pos, ↓if_neg, if_neg, ↓zb_ite, zb_ite, ↓zb_itn, zb_itn, ↓gf_21, gf_21, ↓pf_21, pf_21, ↓vc_21, vc_21, if_true, if_false, not_true_eq_false, not_false_eq_true, zu_eq, zu_a, zu_j, ge_iff_le, gt_iff_lt, ne_eq, Int.cast_ofNat_Int, Int.add_zero, Int.zero_add, Int.reduceAdd, Int.reduceSub, Int.reduceMul, Int.reduceNeg]
set_option maxHeartbeats 400000 in
theorem s11_isWriter {μ : zMem} {W : Int} (h2 : μ 129 9 = W) (h0 : 0 ≤ W) (h1 : W ≤ 4) (p : Int) : fX11_isWriter 129 p μ = some (zb (0 ≤ p ∧ p < W), μ) := by
  unfold fX11_isWriter
  simp (disch := omega) only [gf_129, Int.cast_ofNat_Int, s11_within, zcall_ok, h2, zw32_id, zbl_ok zb01]
  congr 2
  by_cases h : 0 ≤ p ∧ p < W
  · rw [zb_t h, zb_t (by omega)]
  · rw [zb_f h, zb_f (by omega)]
/-- a paper opened, on both sides -/
def zop1 (μ : zMem) (P w : Int) : zMem := zupd (zupd (zupd μ (zbP P) 1 0) (zbP P) 2 w) 34 3 (P + 1)
def zop2 (μ : zMem) (P w : Int) : zMem := zupd (zupd (zupd μ 129 20 (P + 1)) 140 P w) 141 P 0
set_option maxHeartbeats 400000 in
theorem s1_open {μ : zMem} (hG : zG0 μ) {P w : Int} (h : μ 34 3 = P) (h0 : 0 ≤ P) (h1 : P < 10) : fX1_open 34 w μ = some (P, zop1 μ P w) := by
  have hz : zbP P = 53 + 6 * P := rfl
  have e : fX6_begin (zbP P) w μ = some (0, zupd (zupd μ (zbP P) 1 0) (zbP P) 2 w) := by
    unfold fX6_begin
    simp (disch := omega) only [pfP, ↓zcall_ok, zcall_ok, ↓zjn_ok, zjn_ok, ↓zbl_0, zbl_0, ↓zbl_1, zbl_1, ↓if_pos, if_pos, ↓if_neg, if_neg, ↓zb_ite, zb_ite, ↓zb_itn, zb_itn, ↓gf_6, gf_6, ↓pf_6, pf_6, ↓vc_6, vc_6, if_true, if_false, not_true_eq_false, not_false_eq_true, zu_eq, zu_a, zu_j, ge_iff_le, gt_iff_lt, ne_eq, Int.cast_ofNat_Int, Int.add_zero, Int.zero_add, Int.reduceAdd, Int.reduceSub, Int.reduceMul, Int.reduceNeg]
  have q : zupd (zupd μ (zbP P) 1 0) (zbP P) 2 w 34 3 = P := by rw [zu_a (by omega), zu_a (by omega), h]
  unfold fX1_open zop1
  simp (disch := omega) only [h, ↓aq_35 hG, ↓(vcP_of h0 h1 e), q, zw32_id, Int.add_sub_cancel, ↓zcall_ok, zcall_ok, ↓zjn_ok, zjn_ok, ↓zbl_0, zbl_0, ↓zbl_1, zbl_1, ↓if_pos, if_pos, ↓if_neg, if_neg, ↓zb_ite, zb_ite, ↓zb_itn, zb_itn, ↓gf_34, gf_34, ↓pf_34, pf_34, ↓vc_34, vc_34, if_true, if_false, not_true_eq_false, not_false_eq_true, zu_eq, zu_a, zu_j, ge_iff_le, gt_iff_lt, ne_eq, Int.cast_ofNat_Int, Int.add_zero, Int.zero_add, Int.reduceAdd, Int.reduceSub, Int.reduceMul, Int.reduceNeg, ↓gq_34_0 hG, ↓gq_34_1 hG, ↓gq_34_2 hG, g_34_0 hG, g_34_1 hG, g_34_2 hG]
set_option maxHeartbeats 400000 in
theorem s1_open_f {μ : zMem} (hG : zG0 μ) {w : Int} (h : μ 34 3 = 10) : fX1_open 34 w μ = some (-3, μ) := by
  unfold fX1_open
  simp (disch := omega) only [h, ↓zcall_ok, zcall_ok, ↓zjn_ok, zjn_ok, ↓zbl_0, zbl_0, ↓zbl_1, zbl_1, ↓if_pos, if_pos, ↓if_neg, if_neg, ↓zb_ite, zb_ite, ↓zb_itn, zb_itn, ↓gf_34, gf_34, ↓pf_34, pf_34, ↓vc_34, vc_34, if_true, if_false, not_true_eq_false, not_false_eq_true, zu_eq, zu_a, zu_j, ge_iff_le, gt_iff_lt, ne_eq, Int.cast_ofNat_Int, Int.add_zero, Int.zero_add, Int.reduceAdd, Int.reduceSub, Int.reduceMul, Int.reduceNeg, ↓gq_34_0 hG, ↓gq_34_1 hG, ↓gq_34_2 hG, g_34_0 hG, g_34_1 hG, g_34_2 hG]
set_option maxHeartbeats 400000 in
theorem zop1_P {μ : zMem} {P w : Int} (h0 : 0 ≤ P) (h1 : P < 10) : zoP P μ (zop1 μ P w) := fun a j q1 q2 q3 q4 q5 => by
  have hz : zbP P = 53 + 6 * P := rfl
  unfold zop1 zupd
  rw [if_neg (by omega), if_neg (by omega), if_neg (by omega)]
set_option maxHeartbeats 400000 in
theorem zop2_P {μ : zMem} {P w : Int} : zoP P μ (zop2 μ P w) := fun a j q1 q2 q3 q4 q5 => by
  unfold zop2 zupd
  rw [if_neg (by omega), if_neg (by omega), if_neg (by omega)]
set_option maxHeartbeats 400000 in
theorem zop1_G {μ : zMem} {P w : Int} (hG : zG0 μ) (h0 : 0 ≤ P) (h1 : P < 10) : zG0 (zop1 μ P w) := by
  unfold zop1
  refine zG0_up (zG0_up (zG0_up hG (zrf_P h0 h1)) ?_) rfl
  rcases znat10 h0 h1 with rfl | rfl | rfl | rfl | rfl | rfl | rfl | rfl | rfl | rfl <;> rfl
set_option maxHeartbeats 400000 in
theorem zop2_G {μ : zMem} {P w : Int} (hG : zG0 μ) : zG0 (zop2 μ P w) := by
  unfold zop2
  exact zG0_up (zG0_up (zG0_up hG rfl) (zrf_R (by decide) (by decide))) (zrf_R (by decide) (by decide))
set_option maxHeartbeats 400000 in
theorem zop1_C {μ : zMem} {P w : Int} (h0 : 0 ≤ P) : zpC (zop1 μ P w) P [] := by
  have hz : zbP P = 53 + 6 * P := rfl
  refine ⟨?_, fun k e h => by simp at h⟩
  unfold zop1
  rw [zu_a (by omega), zu_j (by decide), zu_eq]
  rfl
set_option maxHeartbeats 400000 in
theorem zop2_R {μ : zMem} {P w : Int} : zpR (zop2 μ P w) P [] := by
  refine ⟨?_, fun k e h => by simp at h⟩
  unfold zop2
  rw [zu_eq]
  rfl
/- what comes of both sides' loops over a new paper -/
set_option maxHeartbeats 400000 in
theorem zGP_new {μ μ1 μ2 : zMem} (hP : zGP μ) {P w W : Int} (hP3 : μ 34 3 = P) (h0 : 0 ≤ P) (h1 : P < 10) (hw : -1 ≤ w) (hw1 : w < μ 21 3) {L : List zEn} (hok : zlok (μ 6 1) L) (c2 : zpC μ1 P L) (c3 : zoC P (zop1 μ P w) μ1) (r2 : zpR μ2 P L) (r3 : zoR P (zop2 μ1 P w) μ2) : zGP μ2 := by
  have hz : zbP P = 53 + 6 * P := rfl
  have f12 : ∀ a j : Int, ¬ (a = 129 ∧ j = 20) → ¬ (140 ≤ a ∧ a ≤ 145) → μ2 a j = μ1 a j := fun a j q1 q2 => by
    rw [r3 a j (by omega) (by omega)]
    unfold zop2 zupd
    rw [if_neg (by omega), if_neg (by omega), if_neg (by omega)]
  refine zGP_upd hP h0 h1 (zoP_t (zoP_t (zop1_P h0 h1) (zoP_C c3)) (zoP_t zop2_P (zoP_R r3))) (n := P + 1) ⟨?_, ?_, by omega, by omega⟩ (fun q _ q1 q2 => by omega) (zPp_of ⟨?_, ?_⟩ r2 hok ?_)
  · rw [f12 _ _ (by decide) (by decide), c3 _ _ (by omega) (by omega)]
    exact zu_eq
  · rw [r3 _ _ (by omega) (by omega)]
    unfold zop2
    rw [zu_a (by decide), zu_a (by decide), zu_eq]
  · rw [f12 _ _ (by omega) (by omega)]
    exact c2.1
  · refine zrow_to c2.2 (fun k _ => ⟨f12 _ _ (by omega) (by omega), f12 _ _ (by omega) (by omega), f12 _ _ (by omega) (by omega), f12 _ _ (by omega) (by omega)⟩)
  · have e1 : μ2 140 P = w := by
      rw [r3 _ _ (by omega) (by omega)]
      unfold zop2
      rw [zu_a (by decide), zu_eq]
    have e2 : μ2 (zbP P) 2 = w := by
      rw [f12 _ _ (by omega) (by omega), c3 _ _ (by omega) (by omega)]
      unfold zop1
      rw [zu_a (by omega), zu_eq]
    rw [e1, e2]
    exact ⟨rfl, hw, hw1⟩
set_option maxHeartbeats 400000 in
theorem c_told {u0 : zMem} (hG : zG0 u0) {P : Int} (h0 : 0 ≤ P) (h1 : P < 10) {N bits : Nat} (hN : N ≤ 16) (hM : u0 6 1 = N) (hb : bits < 2147483648) (hL : zpC u0 P []) {e : Nat → zEn} (he : ∀ n : Nat, n < N → e n = ((n : Int), u0 9 n, u0 11 n, 0)) :
    ∃ r u', lX10_told_1 5 bits P (zbP P) 0 u0 = some (r, u') ∧ (r = P ∧ zpC u' P (zlt (zbi bits) e N) ∧ zoC P u0 u') := by
  have hz : zbP P = 53 + 6 * P := rfl
  unfold lX10_told_1
  refine zli1 (fun n a u => a = n ∧ zpC u P (zlt (zbi bits) e n) ∧ zoC P u0 u) N (by omega) (fun k n a u hn hI => ?_) (fun k a u hI => ?_) ⟨rfl, hL, zoC_r⟩
  · obtain ⟨rfl, i1, i2⟩ := hI
    have hGu := zoC_G0 h0 h1 i2 hG
    have q6 : u 6 1 = N := (i2 _ _ (by omega) (by omega)).trans hM
    have es := s5_size (μ := u)
    rw [q6] at es
    have hnN : (n : Int) < N := by omega
    have p1 : fX5_part 6 n 1 u = some (u0 9 n, u) := by
      rw [s5_part hGu (by omega), if_pos ⟨by omega, by omega, by decide, by decide⟩]
      exact congrArg (fun z => some (z, u)) (i2 _ _ (by omega) (by omega))
    have p3 : fX5_part 6 n 3 u = some (u0 11 n, u) := by
      rw [s5_part hGu (by omega), if_pos ⟨by omega, by omega, by decide, by decide⟩]
      exact congrArg (fun z => some (z, u)) (i2 _ _ (by omega) (by omega))
    cases hbn : zbi bits n with
    | false =>
      refine ⟨((n + 1 : Nat) : Int), u, ⟨rfl, by rw [zlt_f hbn]; exact i1, i2⟩, ?_⟩
      clear i1 i2 he
      simp (disch := omega) only [↓gq_5_0 hGu, ↓(vq_6 es), zbi_f (a := bits) (k := n) (by omega) (by omega) hbn, zupn, ↓zcall_ok, zcall_ok, ↓zjn_ok, zjn_ok, ↓zbl_0, zbl_0, ↓zbl_1, zbl_1, ↓if_pos, if_pos, ↓if_neg, if_neg, ↓zb_ite, zb_ite, ↓zb_itn, zb_itn, ↓gf_5, gf_5, ↓pf_5, pf_5, ↓vc_5, vc_5, ↓gf_6, gf_6, ↓pf_6, pf_6, ↓vc_6, vc_6, if_true, if_false, not_true_eq_false, not_false_eq_true, zu_eq, zu_a, zu_j, ge_iff_le, gt_iff_lt, ne_eq, Int.cast_ofNat_Int, Int.add_zero, Int.zero_add, Int.reduceAdd, Int.reduceSub, Int.reduceMul, Int.reduceNeg]
    | true =>
      have hln := zlt_len (f := zbi bits) (e := e) n
      obtain ⟨u', a1, a2, a3⟩ := c_append hGu h0 h1 i1 (by omega) n (u0 9 n) (u0 11 n)
      refine ⟨((n + 1 : Nat) : Int), u', ⟨rfl, by rw [zlt_t hbn, he n hn]; exact a2, zoC_t i2 a3⟩, ?_⟩
      clear i1 i2 he a2 a3
      simp (disch := omega) only [↓gq_5_0 hGu, ↓(vq_6 es), zbi_t (a := bits) (k := n) (by omega) (by omega) hbn, ↓(vq_6 p1), ↓(vq_6 p3), ↓(vcP_of h0 h1 a1), zupn, ↓zcall_ok, zcall_ok, ↓zjn_ok, zjn_ok, ↓zbl_0, zbl_0, ↓zbl_1, zbl_1, ↓if_pos, if_pos, ↓if_neg, if_neg, ↓zb_ite, zb_ite, ↓zb_itn, zb_itn, ↓gf_5, gf_5, ↓pf_5, pf_5, ↓vc_5, vc_5, ↓gf_6, gf_6, ↓pf_6, pf_6, ↓vc_6, vc_6, if_true, if_false, not_true_eq_false, not_false_eq_true, zu_eq, zu_a, zu_j, ge_iff_le, gt_iff_lt, ne_eq, Int.cast_ofNat_Int, Int.add_zero, Int.zero_add, Int.reduceAdd, Int.reduceSub, Int.reduceMul, Int.reduceNeg]
  · obtain ⟨rfl, i1, i2⟩ := hI
    have hGu := zoC_G0 h0 h1 i2 hG
    have q6 : u 6 1 = N := (i2 _ _ (by omega) (by omega)).trans hM
    have es := s5_size (μ := u)
    rw [q6] at es
    refine ⟨P, u, ?_, rfl, i1, i2⟩
    clear i1 i2 he
    simp (disch := omega) only [↓gq_5_0 hGu, ↓(vq_6 es), ↓zcall_ok, zcall_ok, ↓zjn_ok, zjn_ok, ↓zbl_0, zbl_0, ↓zbl_1, zbl_1, ↓if_pos, if_pos, ↓if_neg, if_neg, ↓zb_ite, zb_ite, ↓zb_itn, zb_itn, ↓gf_5, gf_5, ↓pf_5, pf_5, ↓vc_5, vc_5, ↓gf_6, gf_6, ↓pf_6, pf_6, ↓vc_6, vc_6, if_true, if_false, not_true_eq_false, not_false_eq_true, zu_eq, zu_a, zu_j, ge_iff_le, gt_iff_lt, ne_eq, Int.cast_ofNat_Int, Int.add_zero, Int.zero_add, Int.reduceAdd, Int.reduceSub, Int.reduceMul, Int.reduceNeg]
set_option maxHeartbeats 400000 in
theorem r_told {u0 : zMem} (hG : zG0 u0) {P : Int} (h0 : 0 ≤ P) (h1 : P < 10) {N bits : Nat} (hN : N ≤ 16) (hM : u0 129 6 = N) (hb : bits < 2147483648) (hL : zpR u0 P []) {e : Nat → zEn} (he : ∀ n : Nat, n < N → e n = ((n : Int), u0 130 (16 + n), u0 130 (48 + n), 0)) :
    ∃ r u', lX11_told_1 129 bits P 0 u0 = some (r, u') ∧ (r = P ∧ zpR u' P (zlt (zbi bits) e N) ∧ zoR P u0 u') := by
  unfold lX11_told_1
  refine zli1 (fun n a u => a = n ∧ zpR u P (zlt (zbi bits) e n) ∧ zoR P u0 u) N (by omega) (fun k n a u hn hI => ?_) (fun k a u hI => ?_) ⟨rfl, hL, zoR_r⟩
  · obtain ⟨rfl, i1, i2⟩ := hI
    have hGu := zoR_G0 i2 hG
    have q6 : u 129 6 = N := (i2 _ _ (by omega) (by omega)).trans hM
    have hnN : (n : Int) < N := by omega
    have q130 : ∀ j, u 130 j = u0 130 j := fun j => i2 _ _ (by omega) (by omega)
    cases hbn : zbi bits n with
    | false =>
      refine ⟨((n + 1 : Nat) : Int), u, ⟨rfl, by rw [zlt_f hbn]; exact i1, i2⟩, ?_⟩
      clear i1 i2 he
      simp (disch := omega) only [q6, zbi_f (a := bits) (k := n) (by omega) (by omega) hbn, zupn, ↓zcall_ok, zcall_ok, ↓zjn_ok, zjn_ok, ↓zbl_0, zbl_0, ↓zbl_1, zbl_1, ↓if_pos, if_pos, ↓if_neg, if_neg, ↓zb_ite, zb_ite, ↓zb_itn, zb_itn, ↓gf_129, gf_129, ↓pf_129, pf_129, ↓vc_129, vc_129, if_true, if_false, not_true_eq_false, not_false_eq_true, zu_eq, zu_a, zu_j, ge_iff_le, gt_iff_lt, ne_eq, Int.cast_ofNat_Int, Int.add_zero, Int.zero_add, Int.reduceAdd, Int.reduceSub, Int.reduceMul, Int.reduceNeg]
    | true =>
      have hln := zlt_len (f := zbi bits) (e := e) n
      obtain ⟨s, hs⟩ : ∃ s : Nat, s = (zlt (zbi bits) e n).length := ⟨_, rfl⟩
      have q141 := i1.1
      obtain ⟨a2, a3⟩ := r_append hGu h0 h1 i1 (by omega) (e := e n)
      rw [← hs] at a2 a3 q141 hln
      rw [he n hn] at a2 a3
      have ep := r_puts hGu h0 h1 (k := s) (by omega) (by omega) (a := n) (b := u0 130 (16 + n)) (c := u0 130 (48 + n)) (d := 0) (Or.inl rfl)
      have g22 : zpu u P s n (u0 130 (16 + n)) (u0 130 (48 + n)) 0 129 22 = 141 := by rw [zpu_o (by omega)]; exact g_129_22 hGu
      have gs : zpu u P s n (u0 130 (16 + n)) (u0 130 (48 + n)) 0 141 P = s := by rw [zpu_o (by omega)]; exact q141
      refine ⟨((n + 1 : Nat) : Int), _, ⟨rfl, by rw [zlt_t hbn, he n hn]; exact a2, zoR_t i2 a3⟩, ?_⟩
      clear i1 i2 he a2 a3
      simp (disch := omega) only [q6, zbi_t (a := bits) (k := n) (by omega) (by omega) hbn, g_129_0 hGu, g_129_22 hGu, q130, q141, ↓(vq_129 ep), g22, gs, zuc, zw32_id, ↓zcall_ok, zcall_ok, ↓zjn_ok, zjn_ok, ↓zbl_0, zbl_0, ↓zbl_1, zbl_1, ↓if_pos, if_pos, ↓if_neg, if_neg, ↓zb_ite, zb_ite, ↓zb_itn, zb_itn, ↓gf_129, gf_129, ↓pf_129, pf_129, ↓vc_129, vc_129, ↓al_130, al_130, ↓as_130, as_130, ↓ln_130, ln_130, ↓al_141, al_141, ↓as_141, as_141, ↓ln_141, ln_141, if_true, if_false, not_true_eq_false, not_false_eq_true, zu_eq, zu_a, zu_j, ge_iff_le, gt_iff_lt, ne_eq, Int.cast_ofNat_Int, Int.add_zero, Int.zero_add, Int.reduceAdd, Int.reduceSub, Int.reduceMul, Int.reduceNeg]
  · obtain ⟨rfl, i1, i2⟩ := hI
    have q6 : u 129 6 = N := (i2 _ _ (by omega) (by omega)).trans hM
    refine ⟨P, u, ?_, rfl, i1, i2⟩
    clear i1 i2 he
    simp (disch := omega) only [q6, ↓zcall_ok, zcall_ok, ↓zjn_ok, zjn_ok, ↓zbl_0, zbl_0, ↓zbl_1, zbl_1, ↓if_pos, if_pos, ↓if_neg, if_neg, ↓zb_ite, zb_ite, ↓zb_itn, zb_itn, ↓gf_129, gf_129, ↓pf_129, pf_129, ↓vc_129, vc_129, if_true, if_false, not_true_eq_false, not_false_eq_true, zu_eq, zu_a, zu_j, ge_iff_le, gt_iff_lt, ne_eq, Int.cast_ofNat_Int, Int.add_zero, Int.zero_add, Int.reduceAdd, Int.reduceSub, Int.reduceMul, Int.reduceNeg]
set_option maxHeartbeats 400000 in
theorem zsayok {μ : zMem} (hS : zGS μ) {n : Int} (h0 : 0 ≤ n) (h1 : n < μ 6 1) : (0 ≤ μ 9 n ∧ μ 9 n ≤ 3) ∧ (1 ≤ μ 11 n ∧ μ 11 n ≤ 30) ∧ μ 130 (16 + n) = μ 9 n ∧ μ 130 (48 + n) = μ 11 n ∧ (0 ≤ μ 8 n ∧ μ 8 n ≤ 10) ∧ μ 130 n = μ 8 n ∧ (0 ≤ μ 10 n ∧ μ 10 n ≤ 7) ∧ μ 130 (32 + n) = μ 10 n := by
  obtain ⟨s0, s1, s2, s3, s4⟩ := hS
  have z0 := s4 0 n (by decide) (by decide) h0 h1
  have z1 := s4 1 n (by decide) (by decide) h0 h1
  have z2 := s4 2 n (by decide) (by decide) h0 h1
  have z3 := s4 3 n (by decide) (by decide) h0 h1
  have y0 := s3 0 n (by decide) (by decide) h0 (by omega)
  have y1 := s3 1 n (by decide) (by decide) h0 (by omega)
  have y2 := s3 2 n (by decide) (by decide) h0 (by omega)
  have y3 := s3 3 n (by decide) (by decide) h0 (by omega)
  rw [show (16 : Int) * 0 + n = n by omega] at y0
  unfold zfit at z0 z1 z2 z3
  simp only [Int.reduceAdd, Int.reduceMul, Int.add_zero] at z0 z1 z2 z3 y0 y1 y2 y3
  exact ⟨by omega, by omega, y1, y3, by omega, y0, by omega, y2⟩
set_option maxHeartbeats 400000 in
theorem op_told {μ : zMem} (hG : zG0 μ) (hS : zGS μ) (hP : zGP μ) (hW0 : 0 ≤ μ 21 3) (hW4 : μ 21 3 ≤ 4) (hW : μ 129 9 = μ 21 3) (w bits : Int) (hb : bits < 2147483648) : ∃ r μ1 μ2, fX10_told 5 w bits μ = some (r, μ1) ∧ fX11_told 129 w bits μ1 = some (r, μ2) ∧ zGP μ2 := by
  have hPc := hP
  obtain ⟨⟨h0, h1, h2⟩, h3⟩ := hPc
  obtain ⟨s0, s1, s2, -⟩ := id hS
  obtain ⟨N, hN⟩ : ∃ N : Nat, μ 6 1 = N := ⟨(μ 6 1).toNat, by omega⟩
  have es := s5_size (μ := μ)
  simp only [eX10_told, eX11_told]
  by_cases hw : w = -1 ∨ (0 ≤ w ∧ w < μ 21 3)
  rotate_left
  · have e1 := s3_has (μ := μ) w
    have e2 := s11_isWriter hW hW0 hW4 w
    have hn : ¬ (0 ≤ w ∧ w < μ 21 3) := fun q => hw (Or.inr q)
    rw [zb_f hn] at e1 e2
    refine ⟨-1, μ, μ, ?_, ?_, hP⟩
    · simp (disch := omega) only [↓(vq_21 e1), ↓zcall_ok, zcall_ok, ↓zjn_ok, zjn_ok, ↓zbl_0, zbl_0, ↓zbl_1, zbl_1, ↓if_pos, if_pos, ↓if_neg, if_neg, ↓zb_ite, zb_ite, ↓zb_itn, zb_itn, ↓gf_5, gf_5, ↓pf_5, pf_5, ↓vc_5, vc_5, ↓gf_21, gf_21, ↓pf_21, pf_21, ↓vc_21, vc_21, if_true, if_false, not_true_eq_false, not_false_eq_true, zu_eq, zu_a, zu_j, ge_iff_le, gt_iff_lt, ne_eq, Int.cast_ofNat_Int, Int.add_zero, Int.zero_add, Int.reduceAdd, Int.reduceSub, Int.reduceMul, Int.reduceNeg, ↓gq_5_0 hG, ↓gq_5_1 hG, ↓gq_5_2 hG, ↓gq_5_3 hG, ↓gq_5_4 hG, ↓gq_5_5 hG, ↓gq_5_6 hG, ↓gq_21_0 hG, ↓gq_21_1 hG, ↓gq_21_2 hG, g_5_0 hG, g_5_1 hG, g_5_2 hG, g_5_3 hG, g_5_4 hG, g_5_5 hG, g_5_6 hG, g_21_0 hG, g_21_1 hG, g_21_2 hG]
    · simp (disch := omega) only [↓(vq_129 e2), ↓zcall_ok, zcall_ok, ↓zjn_ok, zjn_ok, ↓zbl_0, zbl_0, ↓zbl_1, zbl_1, ↓if_pos, if_pos, ↓if_neg, if_neg, ↓zb_ite, zb_ite, ↓zb_itn, zb_itn, ↓gf_129, gf_129, ↓pf_129, pf_129, ↓vc_129, vc_129, if_true, if_false, not_true_eq_false, not_false_eq_true, zu_eq, zu_a, zu_j, ge_iff_le, gt_iff_lt, ne_eq, Int.cast_ofNat_Int, Int.add_zero, Int.zero_add, Int.reduceAdd, Int.reduceSub, Int.reduceMul, Int.reduceNeg, ↓gq_129_0 hG, ↓gq_129_1 hG, ↓gq_129_2 hG, ↓gq_129_3 hG, ↓gq_129_7 hG, ↓gq_129_10 hG, ↓gq_129_11 hG, ↓gq_129_12 hG, ↓gq_129_13 hG, ↓gq_129_19 hG, ↓gq_129_21 hG, ↓gq_129_22 hG, ↓gq_129_23 hG, ↓gq_129_24 hG, ↓gq_129_25 hG, ↓gq_129_26 hG, ↓gq_129_28 hG, ↓gq_129_29 hG, ↓gq_129_33 hG, ↓gq_129_34 hG, ↓gq_129_35 hG, ↓gq_129_36 hG, g_129_0 hG, g_129_1 hG, g_129_2 hG, g_129_3 hG, g_129_7 hG, g_129_10 hG, g_129_11 hG, g_129_12 hG, g_129_13 hG, g_129_19 hG, g_129_21 hG, g_129_22 hG, g_129_23 hG, g_129_24 hG, g_129_25 hG, g_129_26 hG, g_129_28 hG, g_129_29 hG, g_129_33 hG, g_129_34 hG, g_129_35 hG, g_129_36 hG]
  -- both sides come to the bits
  have k10 : ∀ (K : zMem → zRs), zjn K (fun k2 => if w = -1 then k2 μ else zgf 10 3 5 μ (fun v28 => zvc 3 v28 (fX3_has v28 w μ) (fun v29 u30 => if v29 = 0 then some (-1, u30) else k2 u30))) = K μ := fun K => by
    rw [zjn_ok]
    by_cases q : w = -1
    · rw [if_pos q]
    · have e1 := s3_has (μ := μ) w
      rw [zb_t (by omega)] at e1
      rw [if_neg q, gq_5_3 hG, vq_21 e1, if_neg (by decide)]
  have k11 : ∀ (u : zMem) (K : zMem → zRs), u 129 9 = μ 21 3 → zjn K (fun k2 => if w = -1 then k2 u else zvc 11 129 (fX11_isWriter 129 w u) (fun v28 u29 => if v28 = 0 then some (-1, u29) else k2 u29)) = K u := fun u K hu => by
    rw [zjn_ok]
    by_cases q : w = -1
    · rw [if_pos q]
    · have e1 := s11_isWriter hu hW0 hW4 w
      rw [zb_t (by omega)] at e1
      rw [if_neg q, vq_129 e1, if_neg (by decide)]
  simp only [k10]
  by_cases hb0 : bits < 0
  · refine ⟨-1, μ, μ, ?_, ?_, hP⟩
    · rw [if_pos hb0]
    · rw [k11 _ _ hW, if_pos hb0]
  obtain ⟨b, rfl⟩ : ∃ b : Nat, bits = b := ⟨bits.toNat, by omega⟩
  have hsh1 : zshl 1 (μ 6 1) = ((2 ^ N : Nat) : Int) := by rw [hN]; exact zshl_nat (by omega)
  have hsh2 : zshr (b : Int) (μ 6 1) = ((b / 2 ^ N : Nat) : Int) := by rw [hN]; exact zshr_nat (by omega) (by omega)
  have hpos : 0 < 2 ^ N := Nat.two_pow_pos N
  by_cases hbN : b < 2 ^ N
  rotate_left
  · have d1 : ¬ (b : Int) < zshl 1 (μ 6 1) := by rw [hsh1]; omega
    have d2 : ¬ zshr (b : Int) (μ 6 1) = 0 := by
      rw [hsh2]
      have : 0 < b / 2 ^ N := Nat.div_pos (by omega) hpos
      omega
    refine ⟨-1, μ, μ, ?_, ?_, hP⟩
    · rw [if_neg hb0, gq_5_0 hG, vq_6 es, if_neg d1]
    · rw [k11 _ _ hW, if_neg hb0, gf_129, show ((6 : Nat) : Int) = 6 from rfl, s2, if_neg d2]
  have d1 : (b : Int) < zshl 1 (μ 6 1) := by rw [hsh1]; omega
  have d2 : zshr (b : Int) (μ 6 1) = 0 := by
    rw [hsh2, Nat.div_eq_of_lt hbN]
    rfl
  obtain ⟨P, hP3⟩ : ∃ P, μ 34 3 = P := ⟨_, rfl⟩
  by_cases hP10 : P = 10
  · have eo := s1_open_f hG (w := w) (by rw [hP3, hP10])
    have ep : fX1_paper 34 (-3) μ = some (-1, μ) := by rw [s1_paper hG h1, if_neg (by omega)]
    refine ⟨-3, μ, μ, ?_, ?_, hP⟩
    · rw [if_neg hb0, gq_5_0 hG, vq_6 es, if_pos d1, gq_5_4 hG, vq_34 eo, gq_5_4 hG, vq_34 ep, if_neg (by decide)]
    · rw [k11 _ _ hW, if_neg hb0, gf_129, show ((6 : Nat) : Int) = 6 from rfl, s2, if_pos d2, gf_129, show ((20 : Nat) : Int) = 20 from rfl, h2, hP3, hP10, if_neg (by decide)]
  have p0 : 0 ≤ P := by omega
  have p1 : P < 10 := by omega
  have hz : zbP P = 53 + 6 * P := rfl
  have eo := s1_open hG (w := w) hP3 p0 p1
  have hGo := zop1_G (P := P) (w := w) hG p0 p1
  have fo : ∀ a j : Int, ¬ (53 ≤ a) → ¬ (a = 34 ∧ j = 3) → zop1 μ P w a j = μ a j := fun a j q1 q2 => by
    unfold zop1 zupd
    rw [if_neg (by omega), if_neg (by omega), if_neg (by omega)]
  have ep : fX1_paper 34 P (zop1 μ P w) = some (zbP P, zop1 μ P w) := by
    have q : zop1 μ P w 34 3 = P + 1 := zu_eq
    rw [s1_paper hGo (by omega), if_pos (by omega)]
  obtain ⟨e, he⟩ : ∃ e : Nat → zEn, ∀ n : Nat, e n = ((n : Int), μ 9 n, μ 11 n, 0) := ⟨_, fun _ => rfl⟩
  obtain ⟨r, μ1, c1, rfl, c2, c3⟩ := c_told hGo p0 p1 (N := N) (bits := b) (by omega) ((fo _ _ (by omega) (by omega)).trans hN) (by omega) (zop1_C p0) (e := e) (fun n hn => by rw [he, fo _ _ (by omega) (by omega), fo _ _ (by omega) (by omega)])
  have hG1 := zoC_G0 p0 p1 c3 hGo
  have f1 : ∀ a j : Int, 113 ≤ a → μ1 a j = μ a j := fun a j q => by
    rw [c3 _ _ (by omega) (by omega)]
    unfold zop1 zupd
    rw [if_neg (by omega), if_neg (by omega), if_neg (by omega)]
  have hG2 := zop2_G (P := r) (w := w) hG1
  have f2 : ∀ a j : Int, ¬ (140 ≤ a ∧ a ≤ 145) → ¬ (a = 129 ∧ j = 20) → zop2 μ1 r w a j = μ1 a j := fun a j q1 q2 => by
    unfold zop2 zupd
    rw [if_neg (by omega), if_neg (by omega), if_neg (by omega)]
  obtain ⟨r', μ2, r1, rfl, r2, r3⟩ := r_told hG2 p0 p1 (N := N) (bits := b) (by omega) (by rw [f2 _ _ (by omega) (by omega), f1 _ _ (by decide), s2, hN]) (by omega) zop2_R (e := e) (fun n hn => by
    obtain ⟨-, -, y1, y2, -⟩ := zsayok hS (n := (n : Int)) (by omega) (by omega)
    rw [he, f2 _ _ (by omega) (by omega), f2 _ _ (by omega) (by omega), f1 _ _ (by decide), f1 _ _ (by decide), y1, y2])
  have hok : zlok (μ 6 1) (zlt (zbi b) e N) := (zlt_ok N (by omega) (fun n hn => by
    obtain ⟨y1, y2, -⟩ := zsayok hS (n := (n : Int)) (by omega) (by omega)
    rw [he]
    exact ⟨⟨⟨by show (0 : Int) ≤ n; omega, by show (n : Int) < _; omega⟩, y1, by show 0 ≤ μ 11 n ∧ μ 11 n ≤ 999; omega, (by decide : (0 : Int) ≤ 0), (by decide : (0 : Int) ≤ 1)⟩, rfl⟩)).1
  refine ⟨r', μ1, μ2, ?_, ?_, zGP_new (W := μ 21 3) hP hP3 p0 p1 (by omega) (by omega) hok c2 c3 r2 r3⟩
  · have hpn : ¬ zbP r' = -1 := by omega
    rw [if_neg hb0, gq_5_0 hG, vq_6 es, if_pos d1, gq_5_4 hG, vq_34 eo, gq_5_4 hGo, vq_34 ep, if_pos hpn, c1]
  · have hne : ¬ r' = 10 := by omega
    have g1 : μ1 129 6 = μ 6 1 := (f1 _ _ (by decide)).trans s2
    have g2 : μ1 129 20 = r' := (f1 _ _ (by decide)).trans (h2.trans hP3)
    have hz1 : zw32 (r' + 1) = r' + 1 := zw32_id (by omega) (by omega)
    have hGa : zG0 (zupd μ1 129 20 (r' + 1)) := zG0_up hG1 rfl
    have hGb : zG0 (zupd (zupd μ1 129 20 (r' + 1)) 140 r' w) := zG0_up hGa (zrf_R (by decide) (by decide))
    rw [k11 _ _ ((f1 _ _ (by decide)).trans hW), if_neg hb0, gf_129, show ((6 : Nat) : Int) = 6 from rfl, g1, if_pos d2, gf_129, show ((20 : Nat) : Int) = 20 from rfl, g2, if_pos hne, gf_129, show ((20 : Nat) : Int) = 20 from rfl, g2, gf_129, show ((20 : Nat) : Int) = 20 from rfl, g2, hz1, pf_129, show ((20 : Nat) : Int) = 20 from rfl, gq_129_21 hGa, as_140 p0 p1, gq_129_22 hGb, as_141 p0 p1]
    exact r1
