/-! ===== order: the row of sayings ===== -/
def zlf (nx : Nat → Nat) (L : Nat) : Nat → Nat
  | 0 => L
  | n + 1 => zcl (zlf nx L n) (nx (zlf nx L n))
set_option maxHeartbeats 400000 in
theorem zlf_in {nx : Nat → Nat} {L : Nat} (hL : L < 65536) (hn : ∀ l, l < 65536 → l ≠ 0 → (∀ j, zbi l j = true → zbi L j = true) → nx l < 16 ∧ zbi l (nx l) = true) : ∀ n, n ≤ zpc L → zlf nx L n < 65536 ∧ zpc (zlf nx L n) + n = zpc L ∧ ∀ j, zbi (zlf nx L n) j = true → zbi L j = true
  | 0, _ => ⟨hL, rfl, fun _ h => h⟩
  | n + 1, h => by
    obtain ⟨h1, h2, h3⟩ := zlf_in hL hn n (by omega)
    have h0 : zlf nx L n ≠ 0 := by
      intro e
      rw [e] at h2
      rw [show zpc 0 = 0 from rfl] at h2
      omega
    obtain ⟨a, b⟩ := hn _ h1 h0 h3
    show zcl (zlf nx L n) (nx (zlf nx L n)) < 65536 ∧ zpc (zcl (zlf nx L n) (nx (zlf nx L n))) + (n + 1) = zpc L ∧ ∀ j, zbi (zcl (zlf nx L n) (nx (zlf nx L n))) j = true → zbi L j = true
    have e1 := zpc_cl h1 a b
    have e2 := zcl_le (k := nx (zlf nx L n)) h1
    refine ⟨by omega, by omega, fun j hj => h3 j ?_⟩
    rw [zcl_bit h1 a] at hj
    rw [Bool.and_eq_true] at hj
    exact hj.1
set_option maxHeartbeats 400000 in
theorem zlf_ne {nx : Nat → Nat} {L n : Nat} (h2 : zpc (zlf nx L n) + n = zpc L) (h : n < zpc L) : zlf nx L n ≠ 0 := by
  intro e
  rw [e] at h2
  rw [show zpc 0 = 0 from rfl] at h2
  omega
set_option maxHeartbeats 400000 in
theorem s1_inOrder_1 {ν : zMem} {nx : Nat → Nat} {L i : Nat} (hL : L < 65536) (hn : ∀ l, l < 65536 → l ≠ 0 → (∀ j, zbi l j = true → zbi L j = true) → nx l < 16 ∧ zbi l (nx l) = true)
    (hf : ∀ l : Nat, l < 65536 → l ≠ 0 → (∀ j, zbi l j = true → zbi L j = true) → fX1_foremost 34 l ν = some ((nx l : Int), ν)) (hi : i < zpc L) (h16 : i < 16) : lX1_inOrder_1 34 i L 0 ν = some ((nx (zlf nx L i) : Int), ν) := by
  unfold lX1_inOrder_1
  refine zle2 (fun n => (zlf nx L n : Int)) (fun n => (n : Int)) (fun _ => ν) rfl rfl rfl i (by omega) (fun k n hlt => ?_) (fun k => ?_)
  · obtain ⟨h1, h2, h3⟩ := zlf_in hL hn n (by omega)
    have e := hf _ h1 (zlf_ne h2 (by omega)) h3
    have e2 : ((zlf nx L (n + 1) : Nat) : Int) = zand (zlf nx L n : Int) (zxor (zshl 1 (nx (zlf nx L n) : Int)) (-1)) := (zcl_eq h1).symm
    have hin : (n : Int) < i := by omega
    rw [e2]
    clear hn hf h2 h3 e2
    simp (disch := omega) only [↓(vq_34 e), zupn, ↓zcall_ok, zcall_ok, ↓zjn_ok, zjn_ok, ↓zbl_0, zbl_0, ↓zbl_1, zbl_1, ↓if_pos, if_pos, ↓if_neg, if_neg, ↓zb_ite, zb_ite, ↓zb_itn, zb_itn, ↓gf_34, gf_34, ↓pf_34, pf_34, ↓vc_34, vc_34, if_true, if_false, not_true_eq_false, not_false_eq_true, zu_eq, zu_a, zu_j, ge_iff_le, gt_iff_lt, ne_eq, Int.cast_ofNat_Int, Int.add_zero, Int.zero_add, Int.reduceAdd, Int.reduceSub, Int.reduceMul, Int.reduceNeg]
  · obtain ⟨h1, h2, h3⟩ := zlf_in hL hn i (by omega)
    have e := hf _ h1 (zlf_ne h2 hi) h3
    clear hn hf h2 h3
    simp (disch := omega) only [↓(vq_34 e), ↓zcall_ok, zcall_ok, ↓zjn_ok, zjn_ok, ↓zbl_0, zbl_0, ↓zbl_1, zbl_1, ↓if_pos, if_pos, ↓if_neg, if_neg, ↓zb_ite, zb_ite, ↓zb_itn, zb_itn, ↓gf_34, gf_34, ↓pf_34, pf_34, ↓vc_34, vc_34, if_true, if_false, not_true_eq_false, not_false_eq_true, zu_eq, zu_a, zu_j, ge_iff_le, gt_iff_lt, ne_eq, Int.cast_ofNat_Int, Int.add_zero, Int.zero_add, Int.reduceAdd, Int.reduceSub, Int.reduceMul, Int.reduceNeg]
set_option maxHeartbeats 400000 in
theorem s11_order_1 {ν : zMem} {nx : Nat → Nat} {L i : Nat} (hL : L < 65536) (hn : ∀ l, l < 65536 → l ≠ 0 → (∀ j, zbi l j = true → zbi L j = true) → nx l < 16 ∧ zbi l (nx l) = true)
    (hf : ∀ l : Nat, l < 65536 → l ≠ 0 → (∀ j, zbi l j = true → zbi L j = true) → fX11_nextOf 129 l ν = some ((nx l : Int), ν)) : lX11_order_1 129 i L 0 ν = some (if i < zpc L then (nx (zlf nx L i) : Int) else -1, ν) := by
  have hpc : zpc L ≤ 16 := zpcS_le 16
  unfold lX11_order_1
  refine zlp_meas (fun k (f : Int → Int → zMem → zRs) => ∀ n d : Nat, n + d = zpc L → d < k → n ≤ i → f (zlf nx L n : Int) (n : Int) ν = some (if i < zpc L then (nx (zlf nx L i) : Int) else -1, ν)) ?_ ?_ 1000000 0 (zpc L) (Nat.zero_add _) (by omega) (Nat.zero_le _)
  · intro n d _ h _
    omega
  · intro k f ih n d hd hk hni
    obtain ⟨h1, h2, h3⟩ := zlf_in hL hn n (by omega)
    have hni2 : (n : Int) ≤ i := by omega
    by_cases hd0 : d = 0
    · have h0 : zlf nx L n = 0 := zpc_0 h1 (by omega)
      have hlt : ¬ i < zpc L := by omega
      rw [if_neg hlt, h0]
      clear hn hf ih h2 h3 h0
      simp (disch := omega) only [↓zcall_ok, zcall_ok, ↓zjn_ok, zjn_ok, ↓zbl_0, zbl_0, ↓zbl_1, zbl_1, ↓if_pos, if_pos, ↓if_neg, if_neg, ↓zb_ite, zb_ite, ↓zb_itn, zb_itn, ↓gf_129, gf_129, ↓pf_129, pf_129, ↓vc_129, vc_129, if_true, if_false, not_true_eq_false, not_false_eq_true, zu_eq, zu_a, zu_j, ge_iff_le, gt_iff_lt, ne_eq, Int.cast_ofNat_Int, Int.add_zero, Int.zero_add, Int.reduceAdd, Int.reduceSub, Int.reduceMul, Int.reduceNeg]
    · have hne := zlf_ne h2 (by omega)
      have e := hf _ h1 hne h3
      have hne2 : ¬ ((zlf nx L n : Nat) : Int) = 0 := by omega
      by_cases hi : n = i
      · have hlt : i < zpc L := by omega
        rw [if_pos hlt, ← hi]
        clear hn hf ih h2 h3
        simp (disch := omega) only [↓(vq_129 e), ↓zcall_ok, zcall_ok, ↓zjn_ok, zjn_ok, ↓zbl_0, zbl_0, ↓zbl_1, zbl_1, ↓if_pos, if_pos, ↓if_neg, if_neg, ↓zb_ite, zb_ite, ↓zb_itn, zb_itn, ↓gf_129, gf_129, ↓pf_129, pf_129, ↓vc_129, vc_129, if_true, if_false, not_true_eq_false, not_false_eq_true, zu_eq, zu_a, zu_j, ge_iff_le, gt_iff_lt, ne_eq, Int.cast_ofNat_Int, Int.add_zero, Int.zero_add, Int.reduceAdd, Int.reduceSub, Int.reduceMul, Int.reduceNeg]
      · have e2 : ((zlf nx L (n + 1) : Nat) : Int) = zand (zlf nx L n : Int) (zxor (zshl 1 (nx (zlf nx L n) : Int)) (-1)) := (zcl_eq h1).symm
        have e3 := ih (n + 1) (d - 1) (by omega) (by omega) (by omega)
        rw [e2] at e3
        have hi2 : ¬ (n : Int) = i := by omega
        rw [← e3]
        clear hn hf ih h2 h3 e2 e3
        simp (disch := omega) only [↓(vq_129 e), zupn, ↓zcall_ok, zcall_ok, ↓zjn_ok, zjn_ok, ↓zbl_0, zbl_0, ↓zbl_1, zbl_1, ↓if_pos, if_pos, ↓if_neg, if_neg, ↓zb_ite, zb_ite, ↓zb_itn, zb_itn, ↓gf_129, gf_129, ↓pf_129, pf_129, ↓vc_129, vc_129, if_true, if_false, not_true_eq_false, not_false_eq_true, zu_eq, zu_a, zu_j, ge_iff_le, gt_iff_lt, ne_eq, Int.cast_ofNat_Int, Int.add_zero, Int.zero_add, Int.reduceAdd, Int.reduceSub, Int.reduceMul, Int.reduceNeg]
set_option maxHeartbeats 400000 in
theorem s1_inOrder_2 {μ ν : zMem} (hG : zG0 μ) {P L : Nat} (hP10 : P ≤ 10) (hPn : μ 34 3 = P) {b : Nat → Nat} (hb : ∀ n : Nat, n < P → fX6_bits (zbP n) μ = some ((b n : Int), μ)) (hb16 : ∀ n, n < P → b n < 65536) (hL : zun b P = L) (hc : fX1_countLeads 34 μ = some (0, ν)) {i : Nat} :
    fX1_inOrder 34 i μ = if i < zpc L then lX1_inOrder_1 34 i L 0 ν else some (-1, μ) := by
  have hL16 : L < 65536 := by rw [← hL]; exact zun_lt P hb16
  rw [eX1_inOrder]
  unfold lX1_inOrder_2
  refine zlA (fun n => (zun b n : Int)) rfl P (by omega) (fun k n hn => ?_) (fun k => ?_)
  · have e := hb n hn
    have l1 := hb16 n hn
    have l2 : zun b n < 65536 := zun_lt n (fun m hm => hb16 m (by omega))
    have e2 : ((zun b (n + 1) : Nat) : Int) = zor (zun b n : Int) (b n : Int) := (zor_nat (by omega) (by omega)).symm
    have hn2 : (n : Int) < P := by omega
    rw [e2]
    clear hb hb16 hL e2 hc
    have hz : zbP (n : Int) = 53 + 6 * (n : Int) := rfl
    simp (disch := omega) only [hPn, ↓aq_35 hG, ↓(vcP_of (p := (n : Int)) (by omega) (by omega) e), zupn, ↓zcall_ok, zcall_ok, ↓zjn_ok, zjn_ok, ↓zbl_0, zbl_0, ↓zbl_1, zbl_1, ↓if_pos, if_pos, ↓if_neg, if_neg, ↓zb_ite, zb_ite, ↓zb_itn, zb_itn, ↓gf_34, gf_34, ↓pf_34, pf_34, ↓vc_34, vc_34, if_true, if_false, not_true_eq_false, not_false_eq_true, zu_eq, zu_a, zu_j, ge_iff_le, gt_iff_lt, ne_eq, Int.cast_ofNat_Int, Int.add_zero, Int.zero_add, Int.reduceAdd, Int.reduceSub, Int.reduceMul, Int.reduceNeg, ↓gq_34_0 hG, ↓gq_34_1 hG, ↓gq_34_2 hG, g_34_0 hG, g_34_1 hG, g_34_2 hG]
  · rw [hL]
    have e := zbitc hL16 (μ := μ)
    by_cases hi : i < zpc L
    · rw [if_pos hi]
      have hi2 : (i : Int) < zpc L := by omega
      clear hb hb16 hL
      simp (disch := omega) only [hPn, ↓(zcall_of e), ↓(vq_34 hc), ↓zcall_ok, zcall_ok, ↓zjn_ok, zjn_ok, ↓zbl_0, zbl_0, ↓zbl_1, zbl_1, ↓if_pos, if_pos, ↓if_neg, if_neg, ↓zb_ite, zb_ite, ↓zb_itn, zb_itn, ↓gf_34, gf_34, ↓pf_34, pf_34, ↓vc_34, vc_34, if_true, if_false, not_true_eq_false, not_false_eq_true, zu_eq, zu_a, zu_j, ge_iff_le, gt_iff_lt, ne_eq, Int.cast_ofNat_Int, Int.add_zero, Int.zero_add, Int.reduceAdd, Int.reduceSub, Int.reduceMul, Int.reduceNeg, ↓gq_34_0 hG, ↓gq_34_1 hG, ↓gq_34_2 hG, g_34_0 hG, g_34_1 hG, g_34_2 hG]
    · rw [if_neg hi]
      have hi2 : ¬ (i : Int) < zpc L := by omega
      clear hb hb16 hL
      simp (disch := omega) only [hPn, ↓(zcall_of e), ↓zcall_ok, zcall_ok, ↓zjn_ok, zjn_ok, ↓zbl_0, zbl_0, ↓zbl_1, zbl_1, ↓if_pos, if_pos, ↓if_neg, if_neg, ↓zb_ite, zb_ite, ↓zb_itn, zb_itn, ↓gf_34, gf_34, ↓pf_34, pf_34, ↓vc_34, vc_34, if_true, if_false, not_true_eq_false, not_false_eq_true, zu_eq, zu_a, zu_j, ge_iff_le, gt_iff_lt, ne_eq, Int.cast_ofNat_Int, Int.add_zero, Int.zero_add, Int.reduceAdd, Int.reduceSub, Int.reduceMul, Int.reduceNeg, ↓gq_34_0 hG, ↓gq_34_1 hG, ↓gq_34_2 hG, g_34_0 hG, g_34_1 hG, g_34_2 hG]
set_option maxHeartbeats 400000 in
theorem s11_order_2 {μ : zMem} (hG : zG0 μ) {N L : Nat} (hN : N ≤ 16) (hM : μ 129 6 = N) {had : Nat → Int} (hh : ∀ n : Nat, n < N → fX11_hadBy 129 n μ = some (had n, μ)) {b : Nat → Nat} (hb1 : ∀ n, 0 < had n → b n = 2 ^ n) (hb0 : ∀ n, ¬ 0 < had n → b n = 0) (hL : zun b N = L) {i : Int} {R : zRs} (hi : 0 ≤ i) (hR : lX11_order_1 129 i L 0 μ = R) :
    fX11_order 129 i μ = R := by
  have hb16 : ∀ n, n < N → b n < 65536 := fun n hn => by
    by_cases h : 0 < had n
    · rw [hb1 n h]; exact Nat.pow_lt_pow_right (n := 16) (by decide) (by omega)
    · rw [hb0 n h]; decide
  rw [eX11_order]
  unfold lX11_order_2
  refine zlA (fun n => (zun b n : Int)) rfl N (by omega) (fun k n hn => ?_) (fun k => ?_)
  · have e := hh n hn
    have l1 := hb16 n hn
    have l2 : zun b n < 65536 := zun_lt n (fun m hm => hb16 m (by omega))
    have e2 : ((zun b (n + 1) : Nat) : Int) = zor (zun b n : Int) (b n : Int) := (zor_nat (by omega) (by omega)).symm
    have hn2 : (n : Int) < N := by omega
    rw [e2]
    by_cases h : 0 < had n
    · have e3 : (b n : Int) = zshl 1 n := by rw [hb1 n h, zshl_nat (by omega)]
      rw [e3]
      clear hb1 hb0 hb16 hL e2 hh e3
      simp (disch := omega) only [hM, ↓(vq_129 e), zupn, ↓zcall_ok, zcall_ok, ↓zjn_ok, zjn_ok, ↓zbl_0, zbl_0, ↓zbl_1, zbl_1, ↓if_pos, if_pos, ↓if_neg, if_neg, ↓zb_ite, zb_ite, ↓zb_itn, zb_itn, ↓gf_129, gf_129, ↓pf_129, pf_129, ↓vc_129, vc_129, if_true, if_false, not_true_eq_false, not_false_eq_true, zu_eq, zu_a, zu_j, ge_iff_le, gt_iff_lt, ne_eq, Int.cast_ofNat_Int, Int.add_zero, Int.zero_add, Int.reduceAdd, Int.reduceSub, Int.reduceMul, Int.reduceNeg, ↓gq_129_0 hG, ↓gq_129_1 hG, ↓gq_129_2 hG, ↓gq_129_3 hG, ↓gq_129_7 hG, ↓gq_129_10 hG, ↓gq_129_11 hG, ↓gq_129_12 hG, ↓gq_129_13 hG, ↓gq_129_19 hG, ↓gq_129_21 hG, ↓gq_129_22 hG, ↓gq_129_23 hG, ↓gq_129_24 hG, ↓gq_129_25 hG, ↓gq_129_26 hG, ↓gq_129_28 hG, ↓gq_129_29 hG, ↓gq_129_33 hG, ↓gq_129_34 hG, ↓gq_129_35 hG, ↓gq_129_36 hG, g_129_0 hG, g_129_1 hG, g_129_2 hG, g_129_3 hG, g_129_7 hG, g_129_10 hG, g_129_11 hG, g_129_12 hG, g_129_13 hG, g_129_19 hG, g_129_21 hG, g_129_22 hG, g_129_23 hG, g_129_24 hG, g_129_25 hG, g_129_26 hG, g_129_28 hG, g_129_29 hG, g_129_33 hG, g_129_34 hG, g_129_35 hG, g_129_36 hG]
    · have e3 : (b n : Int) = 0 := by rw [hb0 n h]; rfl
      rw [e3]
      clear hb1 hb0 hb16 hL e2 hh e3
      simp (disch := omega) only [hM, ↓(vq_129 e), zupn, ↓zcall_ok, zcall_ok, ↓zjn_ok, zjn_ok, ↓zbl_0, zbl_0, ↓zbl_1, zbl_1, ↓if_pos, if_pos, ↓if_neg, if_neg, ↓zb_ite, zb_ite, ↓zb_itn, zb_itn, ↓gf_129, gf_129, ↓pf_129, pf_129, ↓vc_129, vc_129, if_true, if_false, not_true_eq_false, not_false_eq_true, zu_eq, zu_a, zu_j, ge_iff_le, gt_iff_lt, ne_eq, Int.cast_ofNat_Int, Int.add_zero, Int.zero_add, Int.reduceAdd, Int.reduceSub, Int.reduceMul, Int.reduceNeg, ↓gq_129_0 hG, ↓gq_129_1 hG, ↓gq_129_2 hG, ↓gq_129_3 hG, ↓gq_129_7 hG, ↓gq_129_10 hG, ↓gq_129_11 hG, ↓gq_129_12 hG, ↓gq_129_13 hG, ↓gq_129_19 hG, ↓gq_129_21 hG, ↓gq_129_22 hG, ↓gq_129_23 hG, ↓gq_129_24 hG, ↓gq_129_25 hG, ↓gq_129_26 hG, ↓gq_129_28 hG, ↓gq_129_29 hG, ↓gq_129_33 hG, ↓gq_129_34 hG, ↓gq_129_35 hG, ↓gq_129_36 hG, g_129_0 hG, g_129_1 hG, g_129_2 hG, g_129_3 hG, g_129_7 hG, g_129_10 hG, g_129_11 hG, g_129_12 hG, g_129_13 hG, g_129_19 hG, g_129_21 hG, g_129_22 hG, g_129_23 hG, g_129_24 hG, g_129_25 hG, g_129_26 hG, g_129_28 hG, g_129_29 hG, g_129_33 hG, g_129_34 hG, g_129_35 hG, g_129_36 hG]
  · rw [hL]
    clear hb1 hb0 hb16 hL hh
    simp (disch := omega) only [hM, ↓zcall_ok, zcall_ok, ↓zjn_ok, zjn_ok, ↓zbl_0, zbl_0, ↓zbl_1, zbl_1, ↓if_pos, if_pos, ↓if_neg, if_neg, ↓zb_ite, zb_ite, ↓zb_itn, zb_itn, ↓gf_129, gf_129, ↓pf_129, pf_129, ↓vc_129, vc_129, if_true, if_false, not_true_eq_false, not_false_eq_true, zu_eq, zu_a, zu_j, ge_iff_le, gt_iff_lt, ne_eq, Int.cast_ofNat_Int, Int.add_zero, Int.zero_add, Int.reduceAdd, Int.reduceSub, Int.reduceMul, Int.reduceNeg, ↓gq_129_0 hG, ↓gq_129_1 hG, ↓gq_129_2 hG, ↓gq_129_3 hG, ↓gq_129_7 hG, ↓gq_129_10 hG, ↓gq_129_11 hG, ↓gq_129_12 hG, ↓gq_129_13 hG, ↓gq_129_19 hG, ↓gq_129_21 hG, ↓gq_129_22 hG, ↓gq_129_23 hG, ↓gq_129_24 hG, ↓gq_129_25 hG, ↓gq_129_26 hG, ↓gq_129_28 hG, ↓gq_129_29 hG, ↓gq_129_33 hG, ↓gq_129_34 hG, ↓gq_129_35 hG, ↓gq_129_36 hG, g_129_0 hG, g_129_1 hG, g_129_2 hG, g_129_3 hG, g_129_7 hG, g_129_10 hG, g_129_11 hG, g_129_12 hG, g_129_13 hG, g_129_19 hG, g_129_21 hG, g_129_22 hG, g_129_23 hG, g_129_24 hG, g_129_25 hG, g_129_26 hG, g_129_28 hG, g_129_29 hG, g_129_33 hG, g_129_34 hG, g_129_35 hG, g_129_36 hG]
    exact hR
set_option maxHeartbeats 400000 in
theorem s11_order_n {μ : zMem} (hG : zG0 μ) {N : Nat} (hN : N ≤ 16) (hM : μ 129 6 = N) {had : Nat → Int} (hh : ∀ n : Nat, n < N → fX11_hadBy 129 n μ = some (had n, μ)) {i : Int} (hi : i < 0) : fX11_order 129 i μ = some (-1, μ) := by
  rw [eX11_order]
  unfold lX11_order_2
  refine zlA (fun n => Nat.rec (motive := fun _ => Int) 0 (fun n a => zor a (if 0 < had n then zshl 1 n else 0)) n) rfl N (by omega) (fun k n hn => ?_) (fun k => ?_)
  · have e := hh n hn
    have hn2 : (n : Int) < N := by omega
    show _ = k (zor (Nat.rec (motive := fun _ => Int) 0 (fun n a => zor a (if 0 < had n then zshl 1 n else 0)) n) (if 0 < had n then zshl 1 n else 0)) ((n + 1 : Nat) : Int) μ
    generalize (Nat.rec (motive := fun _ => Int) 0 (fun n a => zor a (if 0 < had n then zshl 1 n else 0)) n) = z
    clear hh
    by_cases h : 0 < had n
    · simp (disch := omega) only [hM, ↓(vq_129 e), zupn, ↓zcall_ok, zcall_ok, ↓zjn_ok, zjn_ok, ↓zbl_0, zbl_0, ↓zbl_1, zbl_1, ↓if_pos, if_pos, ↓if_neg, if_neg, ↓zb_ite, zb_ite, ↓zb_itn, zb_itn, ↓gf_129, gf_129, ↓pf_129, pf_129, ↓vc_129, vc_129, if_true, if_false, not_true_eq_false, not_false_eq_true, zu_eq, zu_a, zu_j, ge_iff_le, gt_iff_lt, ne_eq, Int.cast_ofNat_Int, Int.add_zero, Int.zero_add, Int.reduceAdd, Int.reduceSub, Int.reduceMul, Int.reduceNeg, ↓gq_129_0 hG, ↓gq_129_1 hG, ↓gq_129_2 hG, ↓gq_129_3 hG, ↓gq_129_7 hG, ↓gq_129_10 hG, ↓gq_129_11 hG, ↓gq_129_12 hG, ↓gq_129_13 hG, ↓gq_129_19 hG, ↓gq_129_21 hG, ↓gq_129_22 hG, ↓gq_129_23 hG, ↓gq_129_24 hG, ↓gq_129_25 hG, ↓gq_129_26 hG, ↓gq_129_28 hG, ↓gq_129_29 hG, ↓gq_129_33 hG, ↓gq_129_34 hG, ↓gq_129_35 hG, ↓gq_129_36 hG, g_129_0 hG, g_129_1 hG, g_129_2 hG, g_129_3 hG, g_129_7 hG, g_129_10 hG, g_129_11 hG, g_129_12 hG, g_129_13 hG, g_129_19 hG, g_129_21 hG, g_129_22 hG, g_129_23 hG, g_129_24 hG, g_129_25 hG, g_129_26 hG, g_129_28 hG, g_129_29 hG, g_129_33 hG, g_129_34 hG, g_129_35 hG, g_129_36 hG]
    · simp (disch := omega) only [hM, ↓(vq_129 e), zupn, ↓zcall_ok, zcall_ok, ↓zjn_ok, zjn_ok, ↓zbl_0, zbl_0, ↓zbl_1, zbl_1, ↓if_pos, if_pos, ↓if_neg, if_neg, ↓zb_ite, zb_ite, ↓zb_itn, zb_itn, ↓gf_129, gf_129, ↓pf_129, pf_129, ↓vc_129, vc_129, if_true, if_false, not_true_eq_false, not_false_eq_true, zu_eq, zu_a, zu_j, ge_iff_le, gt_iff_lt, ne_eq, Int.cast_ofNat_Int, Int.add_zero, Int.zero_add, Int.reduceAdd, Int.reduceSub, Int.reduceMul, Int.reduceNeg, ↓gq_129_0 hG, ↓gq_129_1 hG, ↓gq_129_2 hG, ↓gq_129_3 hG, ↓gq_129_7 hG, ↓gq_129_10 hG, ↓gq_129_11 hG, ↓gq_129_12 hG, ↓gq_129_13 hG, ↓gq_129_19 hG, ↓gq_129_21 hG, ↓gq_129_22 hG, ↓gq_129_23 hG, ↓gq_129_24 hG, ↓gq_129_25 hG, ↓gq_129_26 hG, ↓gq_129_28 hG, ↓gq_129_29 hG, ↓gq_129_33 hG, ↓gq_129_34 hG, ↓gq_129_35 hG, ↓gq_129_36 hG, g_129_0 hG, g_129_1 hG, g_129_2 hG, g_129_3 hG, g_129_7 hG, g_129_10 hG, g_129_11 hG, g_129_12 hG, g_129_13 hG, g_129_19 hG, g_129_21 hG, g_129_22 hG, g_129_23 hG, g_129_24 hG, g_129_25 hG, g_129_26 hG, g_129_28 hG, g_129_29 hG, g_129_33 hG, g_129_34 hG, g_129_35 hG, g_129_36 hG]
  · generalize (Nat.rec (motive := fun _ => Int) 0 (fun n a => zor a (if 0 < had n then zshl 1 n else 0)) N) = z
    clear hh
    simp (disch := omega) only [hM, ↓zcall_ok, zcall_ok, ↓zjn_ok, zjn_ok, ↓zbl_0, zbl_0, ↓zbl_1, zbl_1, ↓if_pos, if_pos, ↓if_neg, if_neg, ↓zb_ite, zb_ite, ↓zb_itn, zb_itn, ↓gf_129, gf_129, ↓pf_129, pf_129, ↓vc_129, vc_129, if_true, if_false, not_true_eq_false, not_false_eq_true, zu_eq, zu_a, zu_j, ge_iff_le, gt_iff_lt, ne_eq, Int.cast_ofNat_Int, Int.add_zero, Int.zero_add, Int.reduceAdd, Int.reduceSub, Int.reduceMul, Int.reduceNeg, ↓gq_129_0 hG, ↓gq_129_1 hG, ↓gq_129_2 hG, ↓gq_129_3 hG, ↓gq_129_7 hG, ↓gq_129_10 hG, ↓gq_129_11 hG, ↓gq_129_12 hG, ↓gq_129_13 hG, ↓gq_129_19 hG, ↓gq_129_21 hG, ↓gq_129_22 hG, ↓gq_129_23 hG, ↓gq_129_24 hG, ↓gq_129_25 hG, ↓gq_129_26 hG, ↓gq_129_28 hG, ↓gq_129_29 hG, ↓gq_129_33 hG, ↓gq_129_34 hG, ↓gq_129_35 hG, ↓gq_129_36 hG, g_129_0 hG, g_129_1 hG, g_129_2 hG, g_129_3 hG, g_129_7 hG, g_129_10 hG, g_129_11 hG, g_129_12 hG, g_129_13 hG, g_129_19 hG, g_129_21 hG, g_129_22 hG, g_129_23 hG, g_129_24 hG, g_129_25 hG, g_129_26 hG, g_129_28 hG, g_129_29 hG, g_129_33 hG, g_129_34 hG, g_129_35 hG, g_129_36 hG]
set_option maxHeartbeats 400000 in
theorem zsm_pos {F : Int → Int} (hF : ∀ i, F i = 0 ∨ F i = 1) : ∀ n : Nat, 0 < zsm F n ↔ ∃ k : Nat, k < n ∧ F k = 1
  | 0 => ⟨fun h => absurd h (by simp [zsm]), fun ⟨k, h, _⟩ => (by omega)⟩
  | n + 1 => by
    have ih := zsm_pos hF n
    have h1 := zsm_b hF n
    have h2 := hF n
    rw [zsm_S]
    constructor
    · intro h
      by_cases e : F n = 1
      · exact ⟨n, by omega, e⟩
      · obtain ⟨k, k1, k2⟩ := ih.1 (by omega)
        exact ⟨k, by omega, k2⟩
    · rintro ⟨k, k1, k2⟩
      by_cases e : k = n
      · subst e; omega
      · have := ih.2 ⟨k, by omega, k2⟩
        omega
set_option maxHeartbeats 400000 in
theorem s11_order_all {u : zMem} (hG : zG0 u) {P N L : Nat} (hP10 : P ≤ 10) (hN : N ≤ 16) (hPn : u 129 20 = P) (hM : u 129 6 = N) {pl : Int → Int → Int}
    (key : ∀ x : Int, ∀ n : Nat, n < P → fX11_placeOf 129 n x u = some (pl n x, u) ∧ fX11_has 129 n x u = some (zb (0 ≤ pl n x), u)) (hne : ∀ x y : Int, x ≠ y → ∀ n : Nat, n < P → 0 ≤ pl n x → pl n x ≠ pl n y)
    {G : Int → Int → Int → Int} (hGe : ∀ a b p, G a b p = zsg (pl p a) (pl p b)) {g : Nat → Nat → Int} (hg : ∀ x y : Nat, g x y = zsw (G x y) P) (hg0 : ∀ a, g a a = 0) {h : Nat → Nat → Nat → Int} (hh : ∀ l x y : Nat, h l x y = if zbi l y = true ∧ 0 < g x y then 1 else 0)
    {had : Nat → Int} (eh : ∀ n : Nat, n < N → fX11_hadBy 129 n u = some (had n, u)) {c : Nat → Nat} (hc : ∀ n : Nat, c n = if 0 < had n then 2 ^ n else 0) (hLc : zun c N = L) (hL16 : L < 65536)
    {nx : Nat → Nat} (hn1 : ∀ l, l < 65536 → l ≠ 0 → (∀ j, zbi l j = true → zbi L j = true) → nx l < 16 ∧ zbi l (nx l) = true) (hn2 : ∀ l, l < 65536 → l ≠ 0 → (∀ j, zbi l j = true → zbi L j = true) → (zgp (zbi l) (fun a => zcn (h l a) N) N).1 = nx l) (i : Nat) :
    fX11_order 129 i u = some (if i < zpc L then (nx (zlf nx L i) : Int) else -1, u) := by
  have enx : ∀ l : Nat, l < 65536 → fX11_nextOf 129 l u = some ((zgp (zbi l) (fun a => zcn (h l a) N) N).1, u) := fun l hl => by
    refine s11_nextOf hG hN hM hl hg0 (fun a b => hh l a b) (fun a b ha hb hab => ?_) (fun _ => rfl)
    have e := s11_beats hG (P := (P : Int)) (a := a) (b := b) (by omega) (by omega) hPn (pa := fun p => pl p a) (pb := fun p => pl p b) (F := G a b) (fun n hn => (key a n (by omega)).1) (fun n hn => (key b n (by omega)).1) (fun n hn => (key a n (by omega)).2) (fun n hn => (key b n (by omega)).2)
      (fun n hn q1 => hne a b (by omega) n (by omega) q1) (fun n => hGe a b n)
    rw [hg]
    exact e
  have hf2 : ∀ l : Nat, l < 65536 → l ≠ 0 → (∀ j, zbi l j = true → zbi L j = true) → fX11_nextOf 129 l u = some ((nx l : Int), u) := fun l a b c => by rw [enx l a, hn2 l a b c]
  exact s11_order_2 hG (i := i) hN hM eh (b := c) (fun n hn => by rw [hc, if_pos hn]) (fun n hn => by rw [hc, if_neg hn]) hLc (by omega) (s11_order_1 (i := i) hL16 hn1 hf2)
set_option maxHeartbeats 400000 in
theorem op_order {μ : zMem} (hG : zG0 μ) (hS : zGS μ) (hP : zGP μ) (i : Int) : ∃ r μ1, fX10_order 5 i μ = some (r, μ1) ∧ fX11_order 129 i μ1 = some (r, μ1) := by
  have hPc := hP
  obtain ⟨⟨h0, h1, h2⟩, h3⟩ := hPc
  have hSc := hS
  obtain ⟨s0, s1, s2, -⟩ := hSc
  obtain ⟨P, hPn⟩ : ∃ P : Nat, μ 34 3 = P := ⟨(μ 34 3).toNat, by omega⟩
  obtain ⟨N, hNn⟩ : ∃ N : Nat, μ 6 1 = N := ⟨(μ 6 1).toNat, by omega⟩
  obtain ⟨Z, hZ⟩ : ∃ Z : Int → Int → Int, ∀ x p, Z x p = zb (zhas μ p x) := ⟨_, fun _ _ => rfl⟩
  obtain ⟨had, hhad⟩ : ∃ had : Nat → Int, ∀ n : Nat, had n = zsm (Z n) (μ 34 3).toNat := ⟨_, fun _ => rfl⟩
  have eh : ∀ n : Nat, n < N → fX11_hadBy 129 n μ = some (had n, μ) := fun n _ => by rw [hhad]; exact s11_hadBy hG hP n (hZ n)
  by_cases hi0 : i < 0
  · refine ⟨-1, μ, ?_, ?_⟩
    · unfold fX10_order
      rw [if_pos hi0]
    · exact s11_order_n hG (by omega) (s2.trans hNn) eh hi0
  obtain ⟨pl, hpl⟩ : ∃ pl : Int → Int → Int, ∀ p x, pl p x = zpl (μ (zbP p + 2)) x (μ (zbP p) 1).toNat 0 := ⟨_, fun _ _ => rfl⟩
  obtain ⟨G, hGe⟩ : ∃ G : Int → Int → Int → Int, ∀ a b p, G a b p = zsg (pl p a) (pl p b) := ⟨_, fun _ _ _ => rfl⟩
  have hcl := s1_countLeads hG (P := μ 34 3) (N := μ 6 1) (W := μ 21 3) h0 h1 rfl s1 h3 hpl hGe
  obtain ⟨ν, hν⟩ : ∃ ν, ν = zlm μ (fun a b => zsw (G a b) (μ 34 3).toNat) := ⟨_, rfl⟩
  rw [← hν] at hcl
  -- the sayings that are left, on both sides
  obtain ⟨b, hb⟩ : ∃ b : Nat → Nat, ∀ n : Nat, b n = zun (fun k => 2 ^ (μ (zbP (n : Int) + 2) (k : Int)).toNat) (μ (zbP (n : Int)) 1).toNat := ⟨_, fun _ => rfl⟩
  obtain ⟨c, hc⟩ : ∃ c : Nat → Nat, ∀ n : Nat, c n = if 0 < had n then 2 ^ n else 0 := ⟨_, fun _ => rfl⟩
  have hrow : ∀ n : Nat, n < P → ∀ k : Nat, k < (μ (zbP (n : Int)) 1).toNat → μ (zbP (n : Int) + 2) (k : Int) = ((μ (zbP (n : Int) + 2) (k : Int)).toNat : Int) ∧ (μ (zbP (n : Int) + 2) (k : Int)).toNat < 16 := fun n hn k hk => by
    obtain ⟨-, -, hE, -⟩ := h3 n (by omega) (by omega)
    have := (hE k (by omega) (by omega)).2.2.2.2.1
    omega
  have hb16 : ∀ n, n < P → b n < 65536 := fun n hn => by
    rw [hb]
    exact zun_lt _ (fun k hk => Nat.pow_lt_pow_right (n := 16) (by decide) (hrow n hn k hk).2)
  have hbits : ∀ n : Nat, n < P → fX6_bits (zbP n) μ = some ((b n : Int), μ) := fun n hn => by
    obtain ⟨⟨q1, q2, -⟩, -⟩ := h3 n (by omega) (by omega)
    rw [s6_bits hG (by omega) (by omega) ⟨q1, q2⟩, hb, zob_un _ (hrow n hn)]
  have hZ01 : ∀ x p, Z x p = 0 ∨ Z x p = 1 := fun x p => by rw [hZ]; exact zb01
  have hbit : ∀ n : Nat, n < P → ∀ j : Nat, zbi (b n) j = true ↔ 0 ≤ pl n j := fun n hn j => by
    obtain ⟨⟨q1, q2, -⟩, -, hE, -⟩ := h3 n (by omega) (by omega)
    have hpS : zpS (μ (zbP (n : Int) + 2)) (pl n) (μ (zbP (n : Int)) 1).toNat := zpl_S (fun x => hpl n x)
    rw [hb, zun_bit]
    constructor
    · rintro ⟨k, k1, k2⟩
      rw [zbi_2] at k2
      have := hrow n hn k k1
      rcases hpS j with ⟨-, z⟩ | ⟨z, -, -⟩
      · exact absurd (by omega) (z k (by omega) (by omega))
      · exact z
    · intro z
      rcases hpS j with ⟨y, -⟩ | ⟨y1, y2, y3⟩
      · omega
      · refine ⟨(pl n j).toNat, by omega, ?_⟩
        rw [zbi_2, show (((pl n j).toNat : Nat) : Int) = pl n j by omega, y3]
        omega
  have hhas : ∀ n : Nat, 0 < had n ↔ ∃ p : Nat, p < P ∧ 0 ≤ pl p n := fun n => by
    rw [hhad, zsm_pos (hZ01 n), hPn]
    constructor
    · rintro ⟨k, k1, k2⟩
      rw [hZ, zb_1] at k2
      have k3 : 0 ≤ zpl (μ (zbP (k : Int) + 2)) (n : Int) (μ (zbP (k : Int)) 1).toNat 0 := k2
      rw [← hpl] at k3
      exact ⟨k, by omega, k3⟩
    · rintro ⟨k, k1, k2⟩
      refine ⟨k, by omega, ?_⟩
      rw [hZ, zb_1]
      rw [hpl] at k2
      exact k2
  have hbN : ∀ n : Nat, n < P → ∀ j, zbi (b n) j = true → j < N := fun n hn j hj => by
    obtain ⟨-, -, hE, -⟩ := h3 n (by omega) (by omega)
    rw [hb, zun_bit] at hj
    obtain ⟨k, k1, k2⟩ := hj
    rw [zbi_2] at k2
    have := (hE k (by omega) (by omega)).2.2.2.2.1
    omega
  obtain ⟨L, hL⟩ : ∃ L, zun b P = L := ⟨_, rfl⟩
  have hL16 : L < 65536 := by rw [← hL]; exact zun_lt P hb16
  have hLN : ∀ j, zbi L j = true → j < N := fun j hj => by
    rw [← hL, zun_bit] at hj
    obtain ⟨n, n1, n2⟩ := hj
    exact hbN n n1 j n2
  have hLc : zun c N = L := by
    apply Nat.eq_of_testBit_eq
    intro j
    rw [Bool.eq_iff_iff]
    show zbi (zun c N) j = true ↔ zbi L j = true
    rw [zun_bit, ← hL, zun_bit]
    constructor
    · rintro ⟨n, n1, n2⟩
      rw [hc] at n2
      by_cases q : 0 < had n
      · rw [if_pos q, zbi_2] at n2
        subst n2
        obtain ⟨p, p1, p2⟩ := (hhas n).1 q
        exact ⟨p, p1, (hbit p p1 n).2 p2⟩
      · rw [if_neg q] at n2
        unfold zbi at n2
        rw [Nat.zero_testBit] at n2
        cases n2
    · rintro ⟨n, n1, n2⟩
      refine ⟨j, hbN n n1 j n2, ?_⟩
      rw [hc, if_pos ((hhas j).2 ⟨n, n1, (hbit n n1 j).1 n2⟩), zbi_2]
  -- who is ahead of most, on both sides
  obtain ⟨g, hg⟩ : ∃ g : Nat → Nat → Int, ∀ x y : Nat, g x y = zsw (G x y) (μ 34 3).toNat := ⟨_, fun _ _ => rfl⟩
  have hg0 : ∀ a, g a a = 0 := fun a => by
    have : ∀ n, zsw (G a a) n = 0 := by
      intro n
      induction n with
      | zero => rfl
      | succ n ih =>
        rw [zsw_0 (by rw [hGe]; unfold zsg; rw [if_neg (by omega), if_neg (by omega)]), ih]
    rw [hg, this]
  obtain ⟨h, hh⟩ : ∃ h : Nat → Nat → Nat → Int, ∀ l x y : Nat, h l x y = if zbi l y = true ∧ 0 < g x y then 1 else 0 := ⟨_, fun _ _ _ => rfl⟩
  have h01 : ∀ l x y, h l x y = 0 ∨ h l x y = 1 := fun l x y => by rw [hh]; split <;> simp
  obtain ⟨d, hd⟩ : ∃ d : Nat → Nat → Int, ∀ l a : Nat, d l a = if zbi l a = true then zcn (h l a) 16 else -1 := ⟨_, fun _ _ => rfl⟩
  have hcut : ∀ l, (∀ j, zbi l j = true → zbi L j = true) → ∀ a, zcn (h l a) 16 = zcn (h l a) N := fun l hl a => by
    have : ∀ m, N + m ≤ 16 → zcn (h l a) (N + m) = zcn (h l a) N := by
      intro m
      induction m with
      | zero => intro _; rfl
      | succ m ih =>
        intro hm
        rw [← Nat.add_assoc, zcn_S, ih (by omega), hh, if_neg, Int.add_zero]
        rintro ⟨q, -⟩
        have := hLN _ (hl _ q)
        omega
    have := this (16 - N) (by omega)
    rw [show N + (16 - N) = 16 by omega] at this
    exact this
  have efo : ∀ l : Nat, l < 65536 → fX1_foremost 34 l ν = some (zgb (d l) 16, ν) := fun l hl => by
    refine s1_foremost hl (fun a ha hb => ?_) (fun a ha hb => ?_)
    · rw [hd, if_pos hb, hν]
      refine s1_beatenBy hG (by omega) (by omega) hl (fun b => ?_)
      rw [hh, hg]
    · rw [hd, hb]
      rfl
  obtain ⟨nx, hnx⟩ : ∃ nx : Nat → Nat, ∀ l, nx l = (zgb (d l) 16).toNat := ⟨_, fun _ => rfl⟩
  have hGν : zG0 ν := by rw [hν]; exact zlm_G0 hG
  have e129 : ∀ j : Int, ν 129 j = μ 129 j := fun j => by rw [hν, zlm_o (by omega)]
  have e34 : ∀ j : Int, ν 34 j = μ 34 j := fun j => by rw [hν, zlm_o (by omega)]
  have hPν : zGP ν := zGP_keep hP (fun a j hq => by
    rw [hν]
    refine zlm_o (fun q => ?_)
    have : ztag a j = 102 := by
      obtain ⟨n, hn⟩ : ∃ n : Nat, a = 37 + n := ⟨(a - 37).toNat, by omega⟩
      have h16 : n < 16 := by omega
      have hz : ∀ n : Nat, n < 16 → (zshp (37 + n)).1 = 20 ∧ zOWL.getD (37 + n) 9999 = 102 := by decide +kernel
      unfold ztag zown
      rw [hn, show (37 + (n : Int)).toNat = 37 + n by omega, (hz n h16).1, if_neg (by decide)]
      exact (hz n h16).2
    rw [this] at hq
    revert hq
    decide) (by rw [hν, zlm_o (by omega)]; exact Int.le_refl _) (by rw [hν, zlm_o (by omega)]; exact Int.le_refl _)
  have hplν : ∀ p x, 0 ≤ p → p < 10 → pl p x = zpl (ν (zbP p + 2)) x (ν (zbP p) 1).toNat 0 := fun p x p0 p1 => by
    have er : ν (zbP p + 2) = μ (zbP p + 2) := by
      funext j
      rw [hν]
      exact zlm_o (by unfold zbP; omega)
    rw [hpl, er, hν, zlm_P p0 p1]
  have hne : ∀ x y : Int, x ≠ y → ∀ n : Nat, n < P → 0 ≤ pl n x → pl n x ≠ pl n y := fun x y hxy n hn q1 q2 => by
    have hpS : zpS (μ (zbP (n : Int) + 2)) (pl n) (μ (zbP (n : Int)) 1).toNat := zpl_S (fun x => hpl n x)
    rcases hpS x with ⟨z, -⟩ | ⟨-, -, z⟩
    · omega
    · rcases hpS y with ⟨w, -⟩ | ⟨-, -, w⟩
      · omega
      · rw [q2, w] at z
        exact hxy z.symm
  have keyμ : ∀ x : Int, ∀ n : Nat, n < P → fX11_placeOf 129 n x μ = some (pl n x, μ) ∧ fX11_has 129 n x μ = some (zb (0 ≤ pl n x), μ) := fun x n hn => by
    have q := h3 n (by omega) (by omega)
    have e1 := s11_placeOf hG (p := n) (by omega) (by omega) q x
    have e2 := s11_has hG (p := n) (by omega) (by omega) q x
    rw [← hpl n x] at e1 e2
    exact ⟨e1, e2⟩
  have keyν : ∀ x : Int, ∀ n : Nat, n < P → fX11_placeOf 129 n x ν = some (pl n x, ν) ∧ fX11_has 129 n x ν = some (zb (0 ≤ pl n x), ν) := fun x n hn => by
    have q := hPν.2 n (by omega) (by rw [e34 3]; omega)
    have e1 := s11_placeOf hGν (p := n) (by omega) (by omega) q x
    have e2 := s11_has hGν (p := n) (by omega) (by omega) q x
    rw [← hplν n x (by omega) (by omega)] at e1 e2
    exact ⟨e1, e2⟩
  have hsame : ∀ l : Nat, l < 65536 → l ≠ 0 → (∀ j, zbi l j = true → zbi L j = true) → (nx l : Int) = zgb (d l) 16 ∧ (zgp (zbi l) (fun a => zcn (h l a) N) N).1 = zgb (d l) 16 ∧ nx l < 16 ∧ zbi l (nx l) = true := fun l hl hl0 hlL => by
    have hfn : (fun a => zcn (h l a) N) = fun a => zcn (h l a) 16 := by
      funext a
      exact (hcut l hlL a).symm
    rw [hfn]
    have hpos : ∀ a, 0 ≤ zcn (h l a) 16 := fun a => (zcn_in (h01 l a) 16).1
    have his := zgp_is (bt := zbi l) (c := fun a => zcn (h l a) 16) (c' := d l) hpos (fun a ha => by rw [hd, if_pos ha]) (fun a ha => by rw [hd, ha]; rfl)
    have hex : ∃ j, j < N ∧ zbi l j = true := by
      refine Classical.byContradiction (fun hno => hl0 ?_)
      apply Nat.eq_of_testBit_eq
      intro j
      rw [Nat.zero_testBit]
      cases q : l.testBit j with
      | false => rfl
      | true => exact absurd ⟨j, hLN j (hlL j q), q⟩ hno
    obtain ⟨j, j1, j2⟩ := hex
    have hall := zgm_all (c := d l) N
    have hdj : d l j = zcn (h l j) 16 := by rw [hd, if_pos j2]
    have hpj := hpos j
    have hm := hall.2 j j1
    rcases his N with ⟨q, -⟩ | ⟨q1, q2, q3, q4, q5⟩
    · omega
    · have hskip : ∀ m, N + m ≤ 16 → zgb (d l) (N + m) = zgb (d l) N ∧ zgm (d l) (N + m) = zgm (d l) N := by
        intro m
        induction m with
        | zero => intro _; exact ⟨rfl, rfl⟩
        | succ m ih =>
          intro hm
          have e1 := ih (by omega)
          have e2 : d l (N + m) = -1 := by
            rw [hd, if_neg]
            intro q
            have := hLN _ (hlL _ q)
            omega
          have e3 := zgm_le (c := d l) (n := N + m) (by rw [e2, e1.2]; omega)
          rw [← Nat.add_assoc, e3.1, e3.2]
          exact e1
      have hs := (hskip (16 - N) (by omega)).1
      rw [show N + (16 - N) = 16 by omega] at hs
      rw [q4, hnx, hs]
      refine ⟨by omega, rfl, by omega, q5⟩
  have hn1 : ∀ l, l < 65536 → l ≠ 0 → (∀ j, zbi l j = true → zbi L j = true) → nx l < 16 ∧ zbi l (nx l) = true := fun l a b c => (hsame l a b c).2.2
  have hf1 : ∀ l : Nat, l < 65536 → l ≠ 0 → (∀ j, zbi l j = true → zbi L j = true) → fX1_foremost 34 l ν = some ((nx l : Int), ν) := fun l a b c => by rw [efo l a, (hsame l a b c).1]
  have hn2 : ∀ l, l < 65536 → l ≠ 0 → (∀ j, zbi l j = true → zbi L j = true) → (zgp (zbi l) (fun a => zcn (h l a) N) N).1 = nx l := fun l a b c => by rw [(hsame l a b c).1, (hsame l a b c).2.1]
  have hgP : ∀ x y : Nat, g x y = zsw (G x y) P := fun x y => by rw [hg, hPn]; rfl
  obtain ⟨n, hn⟩ : ∃ n : Nat, i = n := ⟨i.toNat, by omega⟩
  subst hn
  have hpc : zpc L ≤ 16 := zpcS_le 16
  have ehν : ∀ n : Nat, n < N → fX11_hadBy 129 n ν = some (had n, ν) := fun m _ => by
    have q := s11_hadBy hGν hPν m (F := fun p => zb (zhas ν p m)) (fun _ => rfl)
    rw [q, e34 3, hhad]
    congr 2
    refine zsm_congr _ (fun p p0 p1 => ?_)
    have h4 := hplν p m p0 (by omega)
    rw [hpl] at h4
    rw [hZ]
    show zb (0 ≤ zpl (ν (zbP p + 2)) m (ν (zbP p) 1).toNat 0) = zb (0 ≤ zpl (μ (zbP p + 2)) m (μ (zbP p) 1).toNat 0)
    rw [h4]
  have kC := s1_inOrder_2 hG (i := n) (by omega) hPn hbits hb16 hL hcl
  have kRμ := s11_order_all hG (by omega) (by omega) (h2.trans hPn) (s2.trans hNn) keyμ hne hGe hgP hg0 hh eh hc hLc hL16 hn1 hn2 n
  have kRν := s11_order_all hGν (by omega) (by omega) ((e129 20).trans (h2.trans hPn)) ((e129 6).trans (s2.trans hNn)) keyν hne hGe hgP hg0 hh ehν hc hLc hL16 hn1 hn2 n
  by_cases h16 : n < 16
  · have h16i : ((n : Nat) : Int) < 16 := by omega
    by_cases hlt : n < zpc L
    · rw [if_pos hlt] at kC kRν
      rw [s1_inOrder_1 hL16 hn1 hf1 hlt h16] at kC
      refine ⟨_, ν, ?_, kRν⟩
      unfold fX10_order
      rw [if_neg hi0, if_pos h16i]
      clear kRν kRμ
      simp (disch := omega) only [↓(vq_34 kC), ↓zcall_ok, zcall_ok, ↓zjn_ok, zjn_ok, ↓zbl_0, zbl_0, ↓zbl_1, zbl_1, ↓if_pos, if_pos, ↓if_neg, if_neg, ↓zb_ite, zb_ite, ↓zb_itn, zb_itn, ↓gf_5, gf_5, ↓pf_5, pf_5, ↓vc_5, vc_5, if_true, if_false, not_true_eq_false, not_false_eq_true, zu_eq, zu_a, zu_j, ge_iff_le, gt_iff_lt, ne_eq, Int.cast_ofNat_Int, Int.add_zero, Int.zero_add, Int.reduceAdd, Int.reduceSub, Int.reduceMul, Int.reduceNeg, ↓gq_5_0 hG, ↓gq_5_1 hG, ↓gq_5_2 hG, ↓gq_5_3 hG, ↓gq_5_4 hG, ↓gq_5_5 hG, ↓gq_5_6 hG, g_5_0 hG, g_5_1 hG, g_5_2 hG, g_5_3 hG, g_5_4 hG, g_5_5 hG, g_5_6 hG]
    · rw [if_neg hlt] at kC kRμ
      refine ⟨_, μ, ?_, kRμ⟩
      unfold fX10_order
      rw [if_neg hi0, if_pos h16i]
      clear kRν kRμ
      simp (disch := omega) only [↓(vq_34 kC), ↓zcall_ok, zcall_ok, ↓zjn_ok, zjn_ok, ↓zbl_0, zbl_0, ↓zbl_1, zbl_1, ↓if_pos, if_pos, ↓if_neg, if_neg, ↓zb_ite, zb_ite, ↓zb_itn, zb_itn, ↓gf_5, gf_5, ↓pf_5, pf_5, ↓vc_5, vc_5, if_true, if_false, not_true_eq_false, not_false_eq_true, zu_eq, zu_a, zu_j, ge_iff_le, gt_iff_lt, ne_eq, Int.cast_ofNat_Int, Int.add_zero, Int.zero_add, Int.reduceAdd, Int.reduceSub, Int.reduceMul, Int.reduceNeg, ↓gq_5_0 hG, ↓gq_5_1 hG, ↓gq_5_2 hG, ↓gq_5_3 hG, ↓gq_5_4 hG, ↓gq_5_5 hG, ↓gq_5_6 hG, g_5_0 hG, g_5_1 hG, g_5_2 hG, g_5_3 hG, g_5_4 hG, g_5_5 hG, g_5_6 hG]
  · rw [if_neg (by omega)] at kRμ
    refine ⟨_, μ, ?_, kRμ⟩
    unfold fX10_order
    rw [if_neg hi0, if_neg (by omega)]
