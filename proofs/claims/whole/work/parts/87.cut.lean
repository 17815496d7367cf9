/-! ===== cut ===== -/
def zsi (l : Nat → Int) : Nat → Nat
  | 0 => 0
  | k + 1 => if l (k + 1) ≤ l (zsi l k) then k + 1 else zsi l k
set_option maxHeartbeats 400000 in
theorem zsi_y {l : Nat → Int} {k : Nat} (h : l (k + 1) ≤ l (zsi l k)) : zsi l (k + 1) = k + 1 := if_pos h
set_option maxHeartbeats 400000 in
theorem zsi_n {l : Nat → Int} {k : Nat} (h : ¬ l (k + 1) ≤ l (zsi l k)) : zsi l (k + 1) = zsi l k := if_neg h
set_option maxHeartbeats 400000 in
theorem zsi_le {l : Nat → Int} : ∀ k, zsi l k ≤ k
  | 0 => Nat.le_refl _
  | k + 1 => by
    have := zsi_le (l := l) k
    by_cases h : l (k + 1) ≤ l (zsi l k)
    · rw [zsi_y h]; exact Nat.le_refl _
    · rw [zsi_n h]; omega
def zll (L : List zEn) (k : Nat) : Int := ((L[k]?).map (fun e => e.2.2.1)).getD 0
set_option maxHeartbeats 400000 in
theorem zll_get {L : List zEn} {k : Nat} {e : zEn} (h : L[k]? = some e) : zll L k = e.2.2.1 := by
  unfold zll
  rw [h]
  rfl
set_option maxHeartbeats 400000 in
theorem zll_row {r0 r1 r2 r3 : Int → Int} {L : List zEn} (h : zrow r0 r1 r2 r3 L) {k : Nat} (hk : k < L.length) : r2 k = zll L k := by
  obtain ⟨e, he⟩ := zgetE hk
  rw [zll_get he]
  exact (h k e he).2.2.1
def zkt (L : List zEn) : Nat → List zEn
  | 0 => L
  | n + 1 => (zkt L n).eraseIdx (zsi (zll (zkt L n)) ((zkt L n).length - 1))
set_option maxHeartbeats 400000 in
theorem zkt_len {L : List zEn} : ∀ n, n ≤ L.length → (zkt L n).length = L.length - n
  | 0, _ => rfl
  | n + 1, h => by
    have ih := zkt_len (L := L) n (by omega)
    have h2 := zsi_le (l := zll (zkt L n)) ((zkt L n).length - 1)
    show ((zkt L n).eraseIdx _).length = _
    rw [List.length_eraseIdx_of_lt (by omega), ih]
    omega
set_option maxHeartbeats 400000 in
theorem zkt_ok {L : List zEn} {N : Int} (h : zlok N L) : ∀ n, zlok N (zkt L n)
  | 0 => h
  | n + 1 => zlok_er (zkt_ok h n)
set_option maxHeartbeats 400000 in
theorem c_shortest {u : zMem} (hG : zG0 u) {p : Int} (h0 : 0 ≤ p) (h1 : p < 10) {L : List zEn} {s : Nat} (hC : zpC u p L) (hl : L.length = s + 1) (h16 : s < 16) : fX6_shortest (zbP p) u = some ((zsi (zll L) s : Int), u) := by
  have hz : zbP p = 53 + 6 * p := rfl
  have hs := hC.1
  rw [hl] at hs
  rw [eX6_shortest]
  unfold lX6_shortest_1
  refine zle2 (fun n => (zsi (zll L) n : Int)) (fun n => ((n + 1 : Nat) : Int)) (fun _ => u) rfl rfl rfl s (by omega) (fun k n hn => ?_) (fun k => ?_)
  · have hle := zsi_le (l := zll L) n
    have q1 := zll_row hC.2 (k := n + 1) (by omega)
    have q2 := zll_row hC.2 (k := zsi (zll L) n) (by omega)
    have hlt : ¬ ((n + 1 : Nat) : Int) ≥ ((s + 1 : Nat) : Int) := by omega
    by_cases c : zll L (n + 1) ≤ zll L (zsi (zll L) n)
    · rw [zsi_y c]
      clear hC
      simp (disch := omega) only [↓gfP, gfP, hs, g_P0 hG, g_Pe hG, alPe, alPr, q1, q2, zupn, ↓zcall_ok, zcall_ok, ↓zjn_ok, zjn_ok, ↓zbl_0, zbl_0, ↓zbl_1, zbl_1, ↓if_pos, if_pos, ↓if_neg, if_neg, ↓zb_ite, zb_ite, ↓zb_itn, zb_itn, ↓gf_6, gf_6, ↓pf_6, pf_6, ↓vc_6, vc_6, if_true, if_false, not_true_eq_false, not_false_eq_true, zu_eq, zu_a, zu_j, ge_iff_le, gt_iff_lt, ne_eq, Int.cast_ofNat_Int, Int.add_zero, Int.zero_add, Int.reduceAdd, Int.reduceSub, Int.reduceMul, Int.reduceNeg]
    · rw [zsi_n c]
      clear hC
      simp (disch := omega) only [↓gfP, gfP, hs, g_P0 hG, g_Pe hG, alPe, alPr, q1, q2, zupn, ↓zcall_ok, zcall_ok, ↓zjn_ok, zjn_ok, ↓zbl_0, zbl_0, ↓zbl_1, zbl_1, ↓if_pos, if_pos, ↓if_neg, if_neg, ↓zb_ite, zb_ite, ↓zb_itn, zb_itn, ↓gf_6, gf_6, ↓pf_6, pf_6, ↓vc_6, vc_6, if_true, if_false, not_true_eq_false, not_false_eq_true, zu_eq, zu_a, zu_j, ge_iff_le, gt_iff_lt, ne_eq, Int.cast_ofNat_Int, Int.add_zero, Int.zero_add, Int.reduceAdd, Int.reduceSub, Int.reduceMul, Int.reduceNeg]
  · clear hC
    simp (disch := omega) only [↓gfP, gfP, hs, ↓zcall_ok, zcall_ok, ↓zjn_ok, zjn_ok, ↓zbl_0, zbl_0, ↓zbl_1, zbl_1, ↓if_pos, if_pos, ↓if_neg, if_neg, ↓zb_ite, zb_ite, ↓zb_itn, zb_itn, ↓gf_6, gf_6, ↓pf_6, pf_6, ↓vc_6, vc_6, if_true, if_false, not_true_eq_false, not_false_eq_true, zu_eq, zu_a, zu_j, ge_iff_le, gt_iff_lt, ne_eq, Int.cast_ofNat_Int, Int.add_zero, Int.zero_add, Int.reduceAdd, Int.reduceSub, Int.reduceMul, Int.reduceNeg]
set_option maxHeartbeats 400000 in
theorem r_cut_1 {u : zMem} (hG : zG0 u) {p : Int} (h0 : 0 ≤ p) (h1 : p < 10) {L : List zEn} {s : Nat} (hR : zpR u p L) (hl : L.length = s + 1) (h16 : s < 16) (v5 : Int) (k7 : Int → zMem → zRs) :
    lX11_cut_1 129 p v5 k7 0 1 u = zvc 11 129 (fX11_fallsAway 129 p (zsi (zll L) s : Int) u) (fun _ u16 => k7 (zw32 (v5 + 1)) u16) := by
  have hs := hR.1
  rw [hl] at hs
  unfold lX11_cut_1
  refine zle2 (fun n => (zsi (zll L) n : Int)) (fun n => ((n + 1 : Nat) : Int)) (fun _ => u) rfl rfl rfl s (by omega) (fun k n hn => ?_) (fun k => ?_)
  · have hle := zsi_le (l := zll L) n
    have q1 : u 144 (16 * p + ((n + 1 : Nat) : Int)) = zll L (n + 1) := zll_row hR.2 (k := n + 1) (by omega)
    have q2 : u 144 (16 * p + ((zsi (zll L) n : Nat) : Int)) = zll L (zsi (zll L) n) := zll_row hR.2 (k := zsi (zll L) n) (by omega)
    have hlt : ¬ ((n + 1 : Nat) : Int) ≥ ((s + 1 : Nat) : Int) := by omega
    by_cases c : zll L (n + 1) ≤ zll L (zsi (zll L) n)
    · rw [zsi_y c]
      clear hR
      simp (disch := omega) only [hs, zi16, q1, q2, zupn, ↓zcall_ok, zcall_ok, ↓zjn_ok, zjn_ok, ↓zbl_0, zbl_0, ↓zbl_1, zbl_1, ↓if_pos, if_pos, ↓if_neg, if_neg, ↓zb_ite, zb_ite, ↓zb_itn, zb_itn, ↓gf_129, gf_129, ↓pf_129, pf_129, ↓vc_129, vc_129, ↓al_141, al_141, ↓as_141, as_141, ↓ln_141, ln_141, ↓al_144, al_144, ↓as_144, as_144, ↓ln_144, ln_144, if_true, if_false, not_true_eq_false, not_false_eq_true, zu_eq, zu_a, zu_j, ge_iff_le, gt_iff_lt, ne_eq, Int.cast_ofNat_Int, Int.add_zero, Int.zero_add, Int.reduceAdd, Int.reduceSub, Int.reduceMul, Int.reduceNeg, ↓gq_129_0 hG, ↓gq_129_1 hG, ↓gq_129_2 hG, ↓gq_129_3 hG, ↓gq_129_7 hG, ↓gq_129_10 hG, ↓gq_129_11 hG, ↓gq_129_12 hG, ↓gq_129_13 hG, ↓gq_129_19 hG, ↓gq_129_21 hG, ↓gq_129_22 hG, ↓gq_129_23 hG, ↓gq_129_24 hG, ↓gq_129_25 hG, ↓gq_129_26 hG, ↓gq_129_28 hG, ↓gq_129_29 hG, ↓gq_129_33 hG, ↓gq_129_34 hG, ↓gq_129_35 hG, ↓gq_129_36 hG, g_129_0 hG, g_129_1 hG, g_129_2 hG, g_129_3 hG, g_129_7 hG, g_129_10 hG, g_129_11 hG, g_129_12 hG, g_129_13 hG, g_129_19 hG, g_129_21 hG, g_129_22 hG, g_129_23 hG, g_129_24 hG, g_129_25 hG, g_129_26 hG, g_129_28 hG, g_129_29 hG, g_129_33 hG, g_129_34 hG, g_129_35 hG, g_129_36 hG]
    · rw [zsi_n c]
      clear hR
      simp (disch := omega) only [hs, zi16, q1, q2, zupn, ↓zcall_ok, zcall_ok, ↓zjn_ok, zjn_ok, ↓zbl_0, zbl_0, ↓zbl_1, zbl_1, ↓if_pos, if_pos, ↓if_neg, if_neg, ↓zb_ite, zb_ite, ↓zb_itn, zb_itn, ↓gf_129, gf_129, ↓pf_129, pf_129, ↓vc_129, vc_129, ↓al_141, al_141, ↓as_141, as_141, ↓ln_141, ln_141, ↓al_144, al_144, ↓as_144, as_144, ↓ln_144, ln_144, if_true, if_false, not_true_eq_false, not_false_eq_true, zu_eq, zu_a, zu_j, ge_iff_le, gt_iff_lt, ne_eq, Int.cast_ofNat_Int, Int.add_zero, Int.zero_add, Int.reduceAdd, Int.reduceSub, Int.reduceMul, Int.reduceNeg, ↓gq_129_0 hG, ↓gq_129_1 hG, ↓gq_129_2 hG, ↓gq_129_3 hG, ↓gq_129_7 hG, ↓gq_129_10 hG, ↓gq_129_11 hG, ↓gq_129_12 hG, ↓gq_129_13 hG, ↓gq_129_19 hG, ↓gq_129_21 hG, ↓gq_129_22 hG, ↓gq_129_23 hG, ↓gq_129_24 hG, ↓gq_129_25 hG, ↓gq_129_26 hG, ↓gq_129_28 hG, ↓gq_129_29 hG, ↓gq_129_33 hG, ↓gq_129_34 hG, ↓gq_129_35 hG, ↓gq_129_36 hG, g_129_0 hG, g_129_1 hG, g_129_2 hG, g_129_3 hG, g_129_7 hG, g_129_10 hG, g_129_11 hG, g_129_12 hG, g_129_13 hG, g_129_19 hG, g_129_21 hG, g_129_22 hG, g_129_23 hG, g_129_24 hG, g_129_25 hG, g_129_26 hG, g_129_28 hG, g_129_29 hG, g_129_33 hG, g_129_34 hG, g_129_35 hG, g_129_36 hG]
  · show zgf 11 22 129 u _ = _
    rw [gq_129_22 hG, al_141 h0 h1, hs]
    exact if_pos (by omega)
set_option maxHeartbeats 400000 in
theorem op_cut {μ : zMem} (hG : zG0 μ) (hP : zGP μ) (p n : Int) : ∃ r μ1 μ2, fX10_cut 5 p n μ = some (r, μ1) ∧ fX11_cut 129 p n μ1 = some (r, μ2) ∧ zGP μ2 := by
  have hPc := hP
  obtain ⟨⟨h0, h1, h2⟩, h3⟩ := hPc
  simp only [eX11_cut]
  unfold fX10_cut
  by_cases hp : 0 ≤ p ∧ p < μ 34 3
  rotate_left
  · have e1 : fX1_paper 34 p μ = some (-1, μ) := by rw [s1_paper hG h1, if_neg hp]
    refine ⟨-1, μ, μ, ?_, ?_, hP⟩
    · simp (disch := omega) only [↓(vq_34 e1), ↓zcall_ok, zcall_ok, ↓zjn_ok, zjn_ok, ↓zbl_0, zbl_0, ↓zbl_1, zbl_1, ↓if_pos, if_pos, ↓if_neg, if_neg, ↓zb_ite, zb_ite, ↓zb_itn, zb_itn, ↓gf_5, gf_5, ↓pf_5, pf_5, ↓vc_5, vc_5, ↓gf_34, gf_34, ↓pf_34, pf_34, ↓vc_34, vc_34, if_true, if_false, not_true_eq_false, not_false_eq_true, zu_eq, zu_a, zu_j, ge_iff_le, gt_iff_lt, ne_eq, Int.cast_ofNat_Int, Int.add_zero, Int.zero_add, Int.reduceAdd, Int.reduceSub, Int.reduceMul, Int.reduceNeg, ↓gq_5_0 hG, ↓gq_5_1 hG, ↓gq_5_2 hG, ↓gq_5_3 hG, ↓gq_5_4 hG, ↓gq_5_5 hG, ↓gq_5_6 hG, ↓gq_34_0 hG, ↓gq_34_1 hG, ↓gq_34_2 hG, g_5_0 hG, g_5_1 hG, g_5_2 hG, g_5_3 hG, g_5_4 hG, g_5_5 hG, g_5_6 hG, g_34_0 hG, g_34_1 hG, g_34_2 hG]
    · simp (disch := omega) only [↓(vq_129 (s11_isPaper hP p)), ↓zcall_ok, zcall_ok, ↓zjn_ok, zjn_ok, ↓zbl_0, zbl_0, ↓zbl_1, zbl_1, ↓if_pos, if_pos, ↓if_neg, if_neg, ↓zb_ite, zb_ite, ↓zb_itn, zb_itn, ↓gf_129, gf_129, ↓pf_129, pf_129, ↓vc_129, vc_129, if_true, if_false, not_true_eq_false, not_false_eq_true, zu_eq, zu_a, zu_j, ge_iff_le, gt_iff_lt, ne_eq, Int.cast_ofNat_Int, Int.add_zero, Int.zero_add, Int.reduceAdd, Int.reduceSub, Int.reduceMul, Int.reduceNeg, ↓gq_129_0 hG, ↓gq_129_1 hG, ↓gq_129_2 hG, ↓gq_129_3 hG, ↓gq_129_7 hG, ↓gq_129_10 hG, ↓gq_129_11 hG, ↓gq_129_12 hG, ↓gq_129_13 hG, ↓gq_129_19 hG, ↓gq_129_21 hG, ↓gq_129_22 hG, ↓gq_129_23 hG, ↓gq_129_24 hG, ↓gq_129_25 hG, ↓gq_129_26 hG, ↓gq_129_28 hG, ↓gq_129_29 hG, ↓gq_129_33 hG, ↓gq_129_34 hG, ↓gq_129_35 hG, ↓gq_129_36 hG, g_129_0 hG, g_129_1 hG, g_129_2 hG, g_129_3 hG, g_129_7 hG, g_129_10 hG, g_129_11 hG, g_129_12 hG, g_129_13 hG, g_129_19 hG, g_129_21 hG, g_129_22 hG, g_129_23 hG, g_129_24 hG, g_129_25 hG, g_129_26 hG, g_129_28 hG, g_129_29 hG, g_129_33 hG, g_129_34 hG, g_129_35 hG, g_129_36 hG]
  have hp10 : p < 10 := by omega
  have hz : zbP p = 53 + 6 * p := rfl
  have e1 : fX1_paper 34 p μ = some (zbP p, μ) := by rw [s1_paper hG h1, if_pos hp]
  by_cases hn : 0 ≤ n ∧ n ≤ 16
  rotate_left
  · refine ⟨-1, μ, μ, ?_, ?_, hP⟩
    · by_cases c : n < 0
      · simp (disch := omega) only [↓(vq_34 e1), ↓zcall_ok, zcall_ok, ↓zjn_ok, zjn_ok, ↓zbl_0, zbl_0, ↓zbl_1, zbl_1, ↓if_pos, if_pos, ↓if_neg, if_neg, ↓zb_ite, zb_ite, ↓zb_itn, zb_itn, ↓gf_5, gf_5, ↓pf_5, pf_5, ↓vc_5, vc_5, ↓gf_34, gf_34, ↓pf_34, pf_34, ↓vc_34, vc_34, if_true, if_false, not_true_eq_false, not_false_eq_true, zu_eq, zu_a, zu_j, ge_iff_le, gt_iff_lt, ne_eq, Int.cast_ofNat_Int, Int.add_zero, Int.zero_add, Int.reduceAdd, Int.reduceSub, Int.reduceMul, Int.reduceNeg, ↓gq_5_0 hG, ↓gq_5_1 hG, ↓gq_5_2 hG, ↓gq_5_3 hG, ↓gq_5_4 hG, ↓gq_5_5 hG, ↓gq_5_6 hG, ↓gq_34_0 hG, ↓gq_34_1 hG, ↓gq_34_2 hG, g_5_0 hG, g_5_1 hG, g_5_2 hG, g_5_3 hG, g_5_4 hG, g_5_5 hG, g_5_6 hG, g_34_0 hG, g_34_1 hG, g_34_2 hG]
      · simp (disch := omega) only [↓(vq_34 e1), ↓zcall_ok, zcall_ok, ↓zjn_ok, zjn_ok, ↓zbl_0, zbl_0, ↓zbl_1, zbl_1, ↓if_pos, if_pos, ↓if_neg, if_neg, ↓zb_ite, zb_ite, ↓zb_itn, zb_itn, ↓gf_5, gf_5, ↓pf_5, pf_5, ↓vc_5, vc_5, ↓gf_34, gf_34, ↓pf_34, pf_34, ↓vc_34, vc_34, if_true, if_false, not_true_eq_false, not_false_eq_true, zu_eq, zu_a, zu_j, ge_iff_le, gt_iff_lt, ne_eq, Int.cast_ofNat_Int, Int.add_zero, Int.zero_add, Int.reduceAdd, Int.reduceSub, Int.reduceMul, Int.reduceNeg, ↓gq_5_0 hG, ↓gq_5_1 hG, ↓gq_5_2 hG, ↓gq_5_3 hG, ↓gq_5_4 hG, ↓gq_5_5 hG, ↓gq_5_6 hG, ↓gq_34_0 hG, ↓gq_34_1 hG, ↓gq_34_2 hG, g_5_0 hG, g_5_1 hG, g_5_2 hG, g_5_3 hG, g_5_4 hG, g_5_5 hG, g_5_6 hG, g_34_0 hG, g_34_1 hG, g_34_2 hG]
    · simp (disch := omega) only [↓(vq_129 (s11_isPaper hP p)), ↓(zcall_of (s11_within n 0 16)), ↓zcall_ok, zcall_ok, ↓zjn_ok, zjn_ok, ↓zbl_0, zbl_0, ↓zbl_1, zbl_1, ↓if_pos, if_pos, ↓if_neg, if_neg, ↓zb_ite, zb_ite, ↓zb_itn, zb_itn, ↓gf_129, gf_129, ↓pf_129, pf_129, ↓vc_129, vc_129, if_true, if_false, not_true_eq_false, not_false_eq_true, zu_eq, zu_a, zu_j, ge_iff_le, gt_iff_lt, ne_eq, Int.cast_ofNat_Int, Int.add_zero, Int.zero_add, Int.reduceAdd, Int.reduceSub, Int.reduceMul, Int.reduceNeg, ↓gq_129_0 hG, ↓gq_129_1 hG, ↓gq_129_2 hG, ↓gq_129_3 hG, ↓gq_129_7 hG, ↓gq_129_10 hG, ↓gq_129_11 hG, ↓gq_129_12 hG, ↓gq_129_13 hG, ↓gq_129_19 hG, ↓gq_129_21 hG, ↓gq_129_22 hG, ↓gq_129_23 hG, ↓gq_129_24 hG, ↓gq_129_25 hG, ↓gq_129_26 hG, ↓gq_129_28 hG, ↓gq_129_29 hG, ↓gq_129_33 hG, ↓gq_129_34 hG, ↓gq_129_35 hG, ↓gq_129_36 hG, g_129_0 hG, g_129_1 hG, g_129_2 hG, g_129_3 hG, g_129_7 hG, g_129_10 hG, g_129_11 hG, g_129_12 hG, g_129_13 hG, g_129_19 hG, g_129_21 hG, g_129_22 hG, g_129_23 hG, g_129_24 hG, g_129_25 hG, g_129_26 hG, g_129_28 hG, g_129_29 hG, g_129_33 hG, g_129_34 hG, g_129_35 hG, g_129_36 hG]
  obtain ⟨hC, hR, hok, hwr⟩ := zPp_L (h3 p hp.1 hp.2)
  obtain ⟨L, hL⟩ : ∃ L, L = zLs μ p := ⟨_, rfl⟩
  rw [← hL] at hC hR hok
  have hlen := hok.1
  obtain ⟨n', rfl⟩ : ∃ n' : Nat, n = n' := ⟨n.toNat, by omega⟩
  obtain ⟨m, hm⟩ : ∃ m : Nat, m = L.length - n' := ⟨_, rfl⟩
  have hmx : zmx 0 (zw32 ((L.length : Int) - n')) = m := by
    rw [zw32_id (by omega) (by omega)]
    unfold zmx
    split <;> omega
  have k1 : ∃ r μ1, fX6_shorten (zbP p) n' μ = some (r, μ1) ∧ (r = m ∧ zpC μ1 p (zkt L m) ∧ zoC p μ μ1) := by
    rw [eX6_shorten, gfP hp.1 hp10, show ((1 : Nat) : Int) = 1 from rfl, hC.1]
    unfold lX6_shorten_1
    rw [hmx]
    refine zli1 (fun k a u => a = k ∧ zpC u p (zkt L k) ∧ zoC p μ u) m (by omega) (fun k i a u hi hI => ?_) (fun k a u hI => ?_) ⟨rfl, hC, zoC_r⟩
    · obtain ⟨rfl, i1, i2⟩ := hI
      have hGu := zoC_G0 hp.1 hp10 i2 hG
      have hkl := zkt_len (L := L) i (by omega)
      obtain ⟨s, hs⟩ : ∃ s : Nat, (zkt L i).length = s + 1 := ⟨(zkt L i).length - 1, by omega⟩
      have c1 := c_shortest hGu hp.1 hp10 i1 hs (by omega)
      have hle := zsi_le (l := zll (zkt L i)) s
      obtain ⟨u', d1, d2, d3⟩ := c_drop hGu hp.1 hp10 i1 (by omega) (i := zsi (zll (zkt L i)) s) (by omega)
      have hkS : zkt L (i + 1) = (zkt L i).eraseIdx (zsi (zll (zkt L i)) s) := by
        show (zkt L i).eraseIdx (zsi (zll (zkt L i)) ((zkt L i).length - 1)) = _
        rw [hs, Nat.add_sub_cancel]
      refine ⟨((i + 1 : Nat) : Int), u', ⟨rfl, by rw [hkS]; exact d2, zoC_t i2 d3⟩, ?_⟩
      have hlt : ¬ (i : Int) ≥ m := by omega
      rw [if_neg hlt, vcP_of hp.1 hp10 c1, vcP_of hp.1 hp10 d1, zupn (by omega)]
    · obtain ⟨rfl, i1, i2⟩ := hI
      exact ⟨m, u, if_pos (Int.le_refl _), rfl, i1, i2⟩
  obtain ⟨r, μ1, c1, rfl, c2, c3⟩ := k1
  have hG1 := zoC_G0 hp.1 hp10 c3 hG
  have k2 : ∃ r μ2, lX11_cut_2 129 p n' 0 μ1 = some (r, μ2) ∧ (r = m ∧ zpR μ2 p (zkt L m) ∧ zoR p μ1 μ2) := by
    unfold lX11_cut_2
    refine zli1 (fun k a u => a = k ∧ zpR u p (zkt L k) ∧ zoR p μ1 u) m (by omega) (fun k i a u hi hI => ?_) (fun k a u hI => ?_) ⟨rfl, zpR_C hR c3 hp.1 hp10, zoR_r⟩
    · obtain ⟨rfl, i1, i2⟩ := hI
      have hGu := zoR_G0 i2 hG1
      have hkl := zkt_len (L := L) i (by omega)
      obtain ⟨s, hs⟩ : ∃ s : Nat, (zkt L i).length = s + 1 := ⟨(zkt L i).length - 1, by omega⟩
      have hle := zsi_le (l := zll (zkt L i)) s
      obtain ⟨u', d1, d2, d3⟩ := r_falls hGu hp.1 hp10 i1 (by omega) (zlok_01 (zkt_ok hok i)) (i := zsi (zll (zkt L i)) s) (by omega)
      have hkS : zkt L (i + 1) = (zkt L i).eraseIdx (zsi (zll (zkt L i)) s) := by
        show (zkt L i).eraseIdx (zsi (zll (zkt L i)) ((zkt L i).length - 1)) = _
        rw [hs, Nat.add_sub_cancel]
      refine ⟨((i + 1 : Nat) : Int), u', ⟨rfl, by rw [hkS]; exact d2, zoR_t i2 d3⟩, ?_⟩
      have c0 := r_cut_1 hGu hp.1 hp10 i1 hs (by omega) i k
      rw [vq_129 d1, zupn (by omega)] at c0
      have q1 := i1.1
      have hlt : ¬ u 141 p ≤ n' := by omega
      rw [gq_129_22 hGu, al_141 hp.1 hp10, if_neg hlt, c0]
    · obtain ⟨rfl, i1, i2⟩ := hI
      have hGu := zoR_G0 i2 hG1
      have hkl := zkt_len (L := L) m (by omega)
      have q1 := i1.1
      have hlt : u 141 p ≤ n' := by omega
      refine ⟨m, u, ?_, rfl, i1, i2⟩
      rw [gq_129_22 hGu, al_141 hp.1 hp10, if_pos hlt]
  obtain ⟨r, μ2, r1, rfl, r2, r3⟩ := k2
  have q20 : μ1 129 20 = μ 34 3 := (c3 _ _ (by omega) (by omega)).trans h2
  have f1 := r_isPaper q20 h0 h1 p
  rw [zb_t hp] at f1
  have f2 : fX11_within n' 0 16 μ1 = some (1, μ1) := by rw [s11_within, zb_t hn]
  refine ⟨m, μ1, μ2, ?_, ?_, ?_⟩
  · have hpn : ¬ zbP p = -1 := by omega
    have hw0 : ¬ ((n' : Nat) : Int) < 0 := by omega
    rw [gq_5_4 hG, vq_34 e1, if_neg hpn, if_neg hw0, if_pos hn.2, vcP_of hp.1 hp10 c1]
  · rw [vq_129 f1, if_neg (by decide), zcall_of f2, if_pos (by decide)]
    exact r1
  · refine zGP_upd hP hp.1 hp10 (zoP_t (zoP_C c3) (zoP_R r3)) (n := μ 34 3) ⟨?_, ?_, h0, h1⟩ (fun q _ q1 _ => q1) (zPp_of (zpC_R c2 r3 hp.1 hp10) r2 (zkt_ok hok m) ?_)
    · exact (r3 _ _ (by omega) (by omega)).trans (c3 _ _ (by omega) (by omega))
    · exact (r3 _ _ (by omega) (by omega)).trans q20
    · have w1 : μ2 140 p = μ 140 p := (r3 _ _ (by omega) (by omega)).trans (c3 _ _ (by omega) (by omega))
      have w2 : μ2 (zbP p) 2 = μ (zbP p) 2 := (r3 _ _ (by omega) (by omega)).trans (c3 _ _ (by omega) (by omega))
      rw [w1, w2]
      exact hwr
