/-! ===== strike, add ===== -/
set_option maxHeartbeats 400000 in
theorem zli1 {bot : Int → zMem → zRs} {F : (Int → zMem → zRs) → (Int → zMem → zRs)} {Q : Int → zMem → Prop} (I : Nat → Int → zMem → Prop) (N : Nat) (hN : N < 1000000) (hs : ∀ k n a u, n < N → I n a u → ∃ a' u', I (n + 1) a' u' ∧ F k a u = k a' u') (he : ∀ k a u, I N a u → ∃ r u', F k a u = some (r, u') ∧ Q r u') {a0 : Int} {u0 : zMem} (h0 : I 0 a0 u0) : ∃ r u', zlp bot F 1000000 a0 u0 = some (r, u') ∧ Q r u' := by
  have key : ∀ fuel n a u, n ≤ N → N - n < fuel → I n a u → ∃ r u', zlp bot F fuel a u = some (r, u') ∧ Q r u' := by
    intro fuel
    induction fuel with
    | zero => intro n a u h1 h2; omega
    | succ fuel ih =>
      intro n a u h1 h2 h3
      by_cases hn : n = N
      · rw [hn] at h3
        exact he (zlp bot F fuel) a u h3
      · obtain ⟨a', u', g1, g2⟩ := hs (zlp bot F fuel) n a u (by omega) h3
        obtain ⟨r, u'', g3, g4⟩ := ih (n + 1) a' u' (by omega) (by omega) g1
        exact ⟨r, u'', g2.trans g3, g4⟩
  exact key 1000000 0 a0 u0 (by omega) (by omega) h0
set_option maxHeartbeats 400000 in
theorem zli2 {bot : Int → Int → zMem → zRs} {F : (Int → Int → zMem → zRs) → (Int → Int → zMem → zRs)} {Q : Int → zMem → Prop} (I : Nat → Int → Int → zMem → Prop) (N : Nat) (hN : N < 1000000) (hs : ∀ k n a b u, n < N → I n a b u → ∃ a' b' u', I (n + 1) a' b' u' ∧ F k a b u = k a' b' u') (he : ∀ k a b u, I N a b u → ∃ r u', F k a b u = some (r, u') ∧ Q r u') {a0 b0 : Int} {u0 : zMem} (h0 : I 0 a0 b0 u0) : ∃ r u', zlp bot F 1000000 a0 b0 u0 = some (r, u') ∧ Q r u' := by
  have key : ∀ fuel n a b u, n ≤ N → N - n < fuel → I n a b u → ∃ r u', zlp bot F fuel a b u = some (r, u') ∧ Q r u' := by
    intro fuel
    induction fuel with
    | zero => intro n a b u h1 h2; omega
    | succ fuel ih =>
      intro n a b u h1 h2 h3
      by_cases hn : n = N
      · rw [hn] at h3
        exact he (zlp bot F fuel) a b u h3
      · obtain ⟨a', b', u', g1, g2⟩ := hs (zlp bot F fuel) n a b u (by omega) h3
        obtain ⟨r, u'', g3, g4⟩ := ih (n + 1) a' b' u' (by omega) (by omega) g1
        exact ⟨r, u'', g2.trans g3, g4⟩
  exact key 1000000 0 a0 b0 u0 (by omega) (by omega) h0
def zoP (p : Int) (μ ν : zMem) : Prop := ∀ a j : Int, ¬ (zbP p ≤ a ∧ a ≤ zbP p + 5) → ¬ ((a = 140 ∨ a = 141) ∧ j = p) → ¬ (142 ≤ a ∧ a ≤ 145 ∧ 16 * p ≤ j ∧ j < 16 * p + 16) → ¬ (a = 34 ∧ j = 3) → ¬ (a = 129 ∧ j = 20) → ν a j = μ a j
set_option maxHeartbeats 400000 in
theorem zoP_C {p : Int} {μ ν : zMem} (h : zoC p μ ν) : zoP p μ ν := fun a j q1 _ _ _ _ => h a j (by omega) (by omega)
set_option maxHeartbeats 400000 in
theorem zoP_R {p : Int} {μ ν : zMem} (h : zoR p μ ν) : zoP p μ ν := fun a j _ q2 q3 _ _ => h a j (by omega) q3
set_option maxHeartbeats 400000 in
theorem zoP_t {p : Int} {μ ν ξ : zMem} (h : zoP p μ ν) (h' : zoP p ν ξ) : zoP p μ ξ := fun a j q1 q2 q3 q4 q5 => (h' a j q1 q2 q3 q4 q5).trans (h a j q1 q2 q3 q4 q5)
set_option maxHeartbeats 400000 in
theorem zPp_o {μ ν : zMem} {N W p q : Int} (h : zPp μ N W q) (hf : zoP p μ ν) (p0 : 0 ≤ p) (p1 : p < 10) (q0 : 0 ≤ q) (q1 : q < 10) (hq : q ≠ p) : zPp ν N W q := by
  have hzp : zbP p = 53 + 6 * p := rfl
  have hzq : zbP q = 53 + 6 * q := rfl
  have e1 : ν (zbP q) 1 = μ (zbP q) 1 := hf _ _ (by omega) (by omega) (by omega) (by omega) (by omega)
  have e2 : ν (zbP q) 2 = μ (zbP q) 2 := hf _ _ (by omega) (by omega) (by omega) (by omega) (by omega)
  have er : ∀ w j : Int, 0 ≤ w → w < 4 → ν (zbP q + 2 + w) j = μ (zbP q + 2 + w) j := fun w j w0 w1 => hf _ _ (by omega) (by omega) (by omega) (by omega) (by omega)
  have er0 : ∀ j : Int, ν (zbP q + 2) j = μ (zbP q + 2) j := fun j => by have := er 0 j (by omega) (by omega); rw [Int.add_zero] at this; exact this
  have e3 : ν 141 q = μ 141 q := hf _ _ (by omega) (by omega) (by omega) (by omega) (by omega)
  have e4 : ν 140 q = μ 140 q := hf _ _ (by omega) (by omega) (by omega) (by omega) (by omega)
  have es : ∀ a j : Int, 142 ≤ a → a ≤ 145 → 0 ≤ j → j < 16 → ν a (16 * q + j) = μ a (16 * q + j) := fun a j a0 a1 j0 j1 => hf _ _ (by omega) (by omega) (by omega) (by omega) (by omega)
  unfold zPp at h ⊢
  rw [e1, e2, e3, e4]
  obtain ⟨a, b, c, d⟩ := h
  refine ⟨a, b, fun i i0 i1 => ?_, fun i l i0 i1 i2 => ?_⟩
  · rw [er0 i, er 1 i (by omega) (by omega), er 2 i (by omega) (by omega), er 3 i (by omega) (by omega), es 142 i (by omega) (by omega) i0 (by omega), es 143 i (by omega) (by omega) i0 (by omega), es 144 i (by omega) (by omega) i0 (by omega), es 145 i (by omega) (by omega) i0 (by omega)]
    exact c i i0 i1
  · rw [er0 i, er0 l]
    exact d i l i0 i1 i2
set_option maxHeartbeats 400000 in
theorem zGP_upd {μ ν : zMem} (hP : zGP μ) {p n : Int} (p0 : 0 ≤ p) (p1 : p < 10) (hf : zoP p μ ν) (hn : ν 34 3 = n ∧ ν 129 20 = n ∧ 0 ≤ n ∧ n ≤ 10) (hq : ∀ q : Int, 0 ≤ q → q < n → q ≠ p → q < μ 34 3) (hp : zPp ν (μ 6 1) (μ 21 3) p) : zGP ν := by
  have hzp : zbP p = 53 + 6 * p := rfl
  obtain ⟨⟨h0, h1, h2⟩, h3⟩ := hP
  have e1 : ν 6 1 = μ 6 1 := hf _ _ (by omega) (by omega) (by omega) (by omega) (by omega)
  have e2 : ν 21 3 = μ 21 3 := hf _ _ (by omega) (by omega) (by omega) (by omega) (by omega)
  refine ⟨⟨by omega, by omega, by omega⟩, fun q q0 q1 => ?_⟩
  rw [e1, e2]
  by_cases he : q = p
  · rw [he]; exact hp
  · have := hq q q0 (by omega) he
    exact zPp_o (h3 q q0 this) hf p0 p1 q0 (by omega) he
set_option maxHeartbeats 400000 in
theorem r_isPaper {μ : zMem} {n : Int} (h2 : μ 129 20 = n) (h0 : 0 ≤ n) (h1 : n ≤ 10) (p : Int) : fX11_isPaper 129 p μ = some (zb (0 ≤ p ∧ p < n), μ) := by
  unfold fX11_isPaper
  simp (disch := omega) only [gf_129, Int.cast_ofNat_Int, s11_within, zcall_ok, h2, zw32_id, zbl_ok zb01]
  congr 2
  by_cases h : 0 ≤ p ∧ p < n
  · rw [zb_t h, zb_t (by omega)]
  · rw [zb_f h, zb_f (by omega)]
set_option maxHeartbeats 400000 in
theorem r_isSaying {μ : zMem} {n : Int} (h2 : μ 129 6 = n) (h0 : 0 ≤ n) (h1 : n ≤ 16) (i : Int) : fX11_isSaying 129 i μ = some (zb (0 ≤ i ∧ i < n), μ) := by
  unfold fX11_isSaying
  simp (disch := omega) only [gf_129, Int.cast_ofNat_Int, s11_within, zcall_ok, h2, zw32_id, zbl_ok zb01]
  congr 2
  by_cases h : 0 ≤ i ∧ i < n
  · rw [zb_t h, zb_t (by omega)]
  · rw [zb_f h, zb_f (by omega)]
set_option maxHeartbeats 400000 in
theorem zlok_er {N : Int} {L : List zEn} {i : Nat} (h : zlok N L) : zlok N (L.eraseIdx i) := by
  obtain ⟨h1, h2, h3⟩ := h
  exact ⟨Nat.le_trans (List.length_eraseIdx_le L i) h1, fun e he => h2 e (List.mem_of_mem_eraseIdx he), h3.sublist (List.eraseIdx_sublist L i)⟩
set_option maxHeartbeats 400000 in
theorem zlok_01 {N : Int} {L : List zEn} (h : zlok N L) : ∀ e ∈ L, e.2.2.2 = 0 ∨ e.2.2.2 = 1 := fun e he => by
  have := (h.2.1 e he).2.2.2
  omega
set_option maxHeartbeats 400000 in
theorem op_strike {μ : zMem} (hG : zG0 μ) (hP : zGP μ) (p i : Int) : ∃ r μ1 μ2, fX10_strike 5 p i μ = some (r, μ1) ∧ fX11_strike 129 p i μ1 = some (r, μ2) ∧ zGP μ2 := by
  have hPc := hP
  obtain ⟨⟨h0, h1, h2⟩, h3⟩ := hPc
  unfold fX10_strike fX11_strike
  by_cases hp : 0 ≤ p ∧ p < μ 34 3
  rotate_left
  · have e1 : fX1_paper 34 p μ = some (-1, μ) := by rw [s1_paper hG h1, if_neg hp]
    refine ⟨-1, μ, μ, ?_, ?_, hP⟩
    · simp (disch := omega) only [↓(vq_34 e1), ↓zcall_ok, zcall_ok, ↓zjn_ok, zjn_ok, ↓zbl_0, zbl_0, ↓zbl_1, zbl_1, ↓if_pos, if_pos, ↓if_neg, if_neg, ↓zb_ite, zb_ite, ↓zb_itn, zb_itn, ↓gf_5, gf_5, ↓pf_5, pf_5, ↓vc_5, vc_5, ↓gf_34, gf_34, ↓pf_34, pf_34, ↓vc_34, vc_34, if_true, if_false, not_true_eq_false, not_false_eq_true, zu_eq, zu_a, zu_j, ge_iff_le, gt_iff_lt, ne_eq, Int.cast_ofNat_Int, Int.add_zero, Int.zero_add, Int.reduceAdd, Int.reduceSub, Int.reduceMul, Int.reduceNeg, ↓gq_5_0 hG, ↓gq_5_1 hG, ↓gq_5_2 hG, ↓gq_5_3 hG, ↓gq_5_4 hG, ↓gq_5_5 hG, ↓gq_5_6 hG, ↓gq_34_0 hG, ↓gq_34_1 hG, ↓gq_34_2 hG, g_5_0 hG, g_5_1 hG, g_5_2 hG, g_5_3 hG, g_5_4 hG, g_5_5 hG, g_5_6 hG, g_34_0 hG, g_34_1 hG, g_34_2 hG]
    · simp (disch := omega) only [↓(vq_129 (s11_isPaper hP p)), ↓zcall_ok, zcall_ok, ↓zjn_ok, zjn_ok, ↓zbl_0, zbl_0, ↓zbl_1, zbl_1, ↓if_pos, if_pos, ↓if_neg, if_neg, ↓zb_ite, zb_ite, ↓zb_itn, zb_itn, ↓gf_129, gf_129, ↓pf_129, pf_129, ↓vc_129, vc_129, if_true, if_false, not_true_eq_false, not_false_eq_true, zu_eq, zu_a, zu_j, ge_iff_le, gt_iff_lt, ne_eq, Int.cast_ofNat_Int, Int.add_zero, Int.zero_add, Int.reduceAdd, Int.reduceSub, Int.reduceMul, Int.reduceNeg, ↓gq_129_0 hG, ↓gq_129_1 hG, ↓gq_129_2 hG, ↓gq_129_3 hG, ↓gq_129_7 hG, ↓gq_129_10 hG, ↓gq_129_11 hG, ↓gq_129_12 hG, ↓gq_129_13 hG, ↓gq_129_19 hG, ↓gq_129_21 hG, ↓gq_129_22 hG, ↓gq_129_23 hG, ↓gq_129_24 hG, ↓gq_129_25 hG, ↓gq_129_26 hG, ↓gq_129_28 hG, ↓gq_129_29 hG, ↓gq_129_33 hG, ↓gq_129_34 hG, ↓gq_129_35 hG, ↓gq_129_36 hG, g_129_0 hG, g_129_1 hG, g_129_2 hG, g_129_3 hG, g_129_7 hG, g_129_10 hG, g_129_11 hG, g_129_12 hG, g_129_13 hG, g_129_19 hG, g_129_21 hG, g_129_22 hG, g_129_23 hG, g_129_24 hG, g_129_25 hG, g_129_26 hG, g_129_28 hG, g_129_29 hG, g_129_33 hG, g_129_34 hG, g_129_35 hG, g_129_36 hG]
  have hp10 : p < 10 := by omega
  have hz : zbP p = 53 + 6 * p := rfl
  have e1 : fX1_paper 34 p μ = some (zbP p, μ) := by rw [s1_paper hG h1, if_pos hp]
  obtain ⟨hC, hR, hok, hw⟩ := zPp_L (h3 p hp.1 hp.2)
  obtain ⟨L, hL⟩ : ∃ L, L = zLs μ p := ⟨_, rfl⟩
  rw [← hL] at hC hR hok
  have hlen := hok.1
  have e2 := s6_hasPlace (μ := μ) hp.1 hp10 i
  rw [hC.1] at e2
  by_cases hi : 0 ≤ i ∧ i < (L.length : Int)
  · obtain ⟨n, rfl⟩ : ∃ n : Nat, i = n := ⟨i.toNat, by omega⟩
    obtain ⟨μ1, c1, c2, c3⟩ := c_drop hG hp.1 hp10 hC hlen (i := n) (by omega)
    have hG1 := zoC_G0 hp.1 hp10 c3 hG
    obtain ⟨μ2, r1, r2, r3⟩ := r_falls hG1 hp.1 hp10 (zpR_C hR c3 hp.1 hp10) hlen (zlok_01 hok) (i := n) (by omega)
    have hG2 := zoR_G0 r3 hG1
    have hl : (L.eraseIdx n).length = L.length - 1 := List.length_eraseIdx_of_lt (by omega)
    have q20 : μ1 129 20 = μ 34 3 := (c3 _ _ (by omega) (by omega)).trans h2
    have q141 : μ1 141 p = L.length := (zpR_C hR c3 hp.1 hp10).1
    have e3 := s6_size (μ := μ1) hp.1 hp10
    rw [c2.1] at e3
    have e4 := r_isPaper q20 h0 h1 p
    rw [zb_t hp] at e4
    rw [zb_t hi] at e2
    refine ⟨((L.eraseIdx n).length : Int), μ1, μ2, ?_, ?_, ?_⟩
    · simp (disch := omega) only [↓(vq_34 e1), ↓(vcP_of hp.1 hp10 e2), ↓(vcP_of hp.1 hp10 c1), ↓(vcP_of hp.1 hp10 e3), ↓zcall_ok, zcall_ok, ↓zjn_ok, zjn_ok, ↓zbl_0, zbl_0, ↓zbl_1, zbl_1, ↓if_pos, if_pos, ↓if_neg, if_neg, ↓zb_ite, zb_ite, ↓zb_itn, zb_itn, ↓gf_5, gf_5, ↓pf_5, pf_5, ↓vc_5, vc_5, ↓gf_34, gf_34, ↓pf_34, pf_34, ↓vc_34, vc_34, if_true, if_false, not_true_eq_false, not_false_eq_true, zu_eq, zu_a, zu_j, ge_iff_le, gt_iff_lt, ne_eq, Int.cast_ofNat_Int, Int.add_zero, Int.zero_add, Int.reduceAdd, Int.reduceSub, Int.reduceMul, Int.reduceNeg, ↓gq_5_0 hG, ↓gq_5_1 hG, ↓gq_5_2 hG, ↓gq_5_3 hG, ↓gq_5_4 hG, ↓gq_5_5 hG, ↓gq_5_6 hG, ↓gq_34_0 hG, ↓gq_34_1 hG, ↓gq_34_2 hG, g_5_0 hG, g_5_1 hG, g_5_2 hG, g_5_3 hG, g_5_4 hG, g_5_5 hG, g_5_6 hG, g_34_0 hG, g_34_1 hG, g_34_2 hG]
    · have q1 := r2.1
      have q2 : (0 : Int) ≤ n ∧ (n : Int) ≤ zw32 ((L.length : Int) - 1) := by rw [zw32_id (by omega) (by omega)]; omega
      have e5 : fX11_within n 0 (zw32 ((L.length : Int) - 1)) μ1 = some (1, μ1) := by rw [s11_within, zb_t q2]
      clear c1 c2 c3 r2 r3 hC hR hok hw q2
      simp (disch := omega) only [g_129_22 hG1, g_129_22 hG2, ↓(vq_129 e4), q141, ↓(zcall_of e5), ↓(vq_129 r1), q1, ↓zcall_ok, zcall_ok, ↓zjn_ok, zjn_ok, ↓zbl_0, zbl_0, ↓zbl_1, zbl_1, ↓if_pos, if_pos, ↓if_neg, if_neg, ↓zb_ite, zb_ite, ↓zb_itn, zb_itn, ↓gf_129, gf_129, ↓pf_129, pf_129, ↓vc_129, vc_129, ↓al_141, al_141, ↓as_141, as_141, ↓ln_141, ln_141, if_true, if_false, not_true_eq_false, not_false_eq_true, zu_eq, zu_a, zu_j, ge_iff_le, gt_iff_lt, ne_eq, Int.cast_ofNat_Int, Int.add_zero, Int.zero_add, Int.reduceAdd, Int.reduceSub, Int.reduceMul, Int.reduceNeg]
    · refine zGP_upd hP hp.1 hp10 (zoP_t (zoP_C c3) (zoP_R r3)) (n := μ 34 3) ⟨?_, ?_, h0, h1⟩ (fun q _ q1 _ => q1) (zPp_of (zpC_R c2 r3 hp.1 hp10) r2 (zlok_er hok) ?_)
      · exact (r3 _ _ (by omega) (by omega)).trans (c3 _ _ (by omega) (by omega))
      · exact (r3 _ _ (by omega) (by omega)).trans q20
      · have w1 : μ2 140 p = μ 140 p := (r3 _ _ (by omega) (by omega)).trans (c3 _ _ (by omega) (by omega))
        have w2 : μ2 (zbP p) 2 = μ (zbP p) 2 := (r3 _ _ (by omega) (by omega)).trans (c3 _ _ (by omega) (by omega))
        rw [w1, w2]
        exact hw
  · rw [zb_f hi] at e2
    refine ⟨-1, μ, μ, ?_, ?_, hP⟩
    · simp (disch := omega) only [↓(vq_34 e1), ↓(vcP_of hp.1 hp10 e2), ↓zcall_ok, zcall_ok, ↓zjn_ok, zjn_ok, ↓zbl_0, zbl_0, ↓zbl_1, zbl_1, ↓if_pos, if_pos, ↓if_neg, if_neg, ↓zb_ite, zb_ite, ↓zb_itn, zb_itn, ↓gf_5, gf_5, ↓pf_5, pf_5, ↓vc_5, vc_5, ↓gf_34, gf_34, ↓pf_34, pf_34, ↓vc_34, vc_34, if_true, if_false, not_true_eq_false, not_false_eq_true, zu_eq, zu_a, zu_j, ge_iff_le, gt_iff_lt, ne_eq, Int.cast_ofNat_Int, Int.add_zero, Int.zero_add, Int.reduceAdd, Int.reduceSub, Int.reduceMul, Int.reduceNeg, ↓gq_5_0 hG, ↓gq_5_1 hG, ↓gq_5_2 hG, ↓gq_5_3 hG, ↓gq_5_4 hG, ↓gq_5_5 hG, ↓gq_5_6 hG, ↓gq_34_0 hG, ↓gq_34_1 hG, ↓gq_34_2 hG, g_5_0 hG, g_5_1 hG, g_5_2 hG, g_5_3 hG, g_5_4 hG, g_5_5 hG, g_5_6 hG, g_34_0 hG, g_34_1 hG, g_34_2 hG]
    · have q141 := hR.1
      have q2 : ¬ ((0 : Int) ≤ i ∧ i ≤ zw32 ((L.length : Int) - 1)) := by rw [zw32_id (by omega) (by omega)]; omega
      have e5 : fX11_within i 0 (zw32 ((L.length : Int) - 1)) μ = some (0, μ) := by rw [s11_within, zb_f q2]
      clear hC hR hok hw q2
      simp (disch := omega) only [↓(vq_129 (s11_isPaper hP p)), q141, ↓(zcall_of e5), ↓zcall_ok, zcall_ok, ↓zjn_ok, zjn_ok, ↓zbl_0, zbl_0, ↓zbl_1, zbl_1, ↓if_pos, if_pos, ↓if_neg, if_neg, ↓zb_ite, zb_ite, ↓zb_itn, zb_itn, ↓gf_129, gf_129, ↓pf_129, pf_129, ↓vc_129, vc_129, ↓al_141, al_141, ↓as_141, as_141, ↓ln_141, ln_141, if_true, if_false, not_true_eq_false, not_false_eq_true, zu_eq, zu_a, zu_j, ge_iff_le, gt_iff_lt, ne_eq, Int.cast_ofNat_Int, Int.add_zero, Int.zero_add, Int.reduceAdd, Int.reduceSub, Int.reduceMul, Int.reduceNeg, ↓gq_129_0 hG, ↓gq_129_1 hG, ↓gq_129_2 hG, ↓gq_129_3 hG, ↓gq_129_7 hG, ↓gq_129_10 hG, ↓gq_129_11 hG, ↓gq_129_12 hG, ↓gq_129_13 hG, ↓gq_129_19 hG, ↓gq_129_21 hG, ↓gq_129_22 hG, ↓gq_129_23 hG, ↓gq_129_24 hG, ↓gq_129_25 hG, ↓gq_129_26 hG, ↓gq_129_28 hG, ↓gq_129_29 hG, ↓gq_129_33 hG, ↓gq_129_34 hG, ↓gq_129_35 hG, ↓gq_129_36 hG, g_129_0 hG, g_129_1 hG, g_129_2 hG, g_129_3 hG, g_129_7 hG, g_129_10 hG, g_129_11 hG, g_129_12 hG, g_129_13 hG, g_129_19 hG, g_129_21 hG, g_129_22 hG, g_129_23 hG, g_129_24 hG, g_129_25 hG, g_129_26 hG, g_129_28 hG, g_129_29 hG, g_129_33 hG, g_129_34 hG, g_129_35 hG, g_129_36 hG]
set_option maxHeartbeats 400000 in
theorem zrow_ins {r0 r1 r2 r3 r0' r1' r2' r3' : Int → Int} {L : List zEn} (h : zrow r0 r1 r2 r3 L) {i : Nat} {e : zEn} (hi : i ≤ L.length) (hlo : ∀ k : Nat, k < i → r0' k = r0 k ∧ r1' k = r1 k ∧ r2' k = r2 k ∧ r3' k = r3 k)
    (hhi : ∀ k : Nat, i < k → k ≤ L.length → r0' k = r0 ((k : Int) - 1) ∧ r1' k = r1 ((k : Int) - 1) ∧ r2' k = r2 ((k : Int) - 1) ∧ r3' k = r3 ((k : Int) - 1)) (he : r0' i = e.1 ∧ r1' i = e.2.1 ∧ r2' i = e.2.2.1 ∧ r3' i = e.2.2.2) : zrow r0' r1' r2' r3' (L.insertIdx i e) := fun k e' hk => by
  have hl := zgetL hk
  rw [List.length_insertIdx_of_le_length hi] at hl
  rw [List.getElem?_insertIdx] at hk
  by_cases c : k < i
  · rw [if_pos c] at hk
    obtain ⟨a, b, c, d⟩ := hlo k c
    rw [a, b, c, d]
    exact h k e' hk
  · rw [if_neg c] at hk
    by_cases c2 : k = i
    · subst c2
      rw [if_pos rfl, if_pos hi] at hk
      rw [← Option.some.inj hk]
      exact he
    · rw [if_neg c2] at hk
      obtain ⟨a, b, c, d⟩ := hhi k (by omega) (by omega)
      rw [a, b, c, d]
      have := h (k - 1) e' hk
      rw [show ((k - 1 : Nat) : Int) = (k : Int) - 1 by omega] at this
      exact this
