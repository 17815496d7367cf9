theorem c_takes {A K : Int} (hK : 0 ≤ K ∧ K < 8) : ∀ (n : Nat), 16 ≤ n → ∀ (k x d c : Int) (u : zMem), 0 ≤ k → k < 8 → 0 ≤ d → d ≤ 25 → zHC A K c u → c ≤ 700 → (gX0_own n).2.1 113 k 1 x d u = some (taV K k x A, zfC (taT K k) u) := by
  have b0 : ∀ (n : Nat) (k x d c : Int) (u : zMem), 0 ≤ k → k < 8 → ¬ k = 7 → ¬ k = 2 → ¬ (k = 3 ∨ k = 5) → 0 ≤ d → d < 30 → zHC A K c u → c ≤ 800 → (gX0_own (n + 1 + 1 + 1 + 1 + 1 + 1 + 1)).2.1 113 k 1 x d u = some (tbV K x A, zfC (saT K) (znC 10 u)) := by
    intro n k x d c u k0 k1 a1 a2 a3 d0 d1 h hc
    have hn := zHC_n (n := 10) h
    have s := c_own hn (c_says (n + 1 + 1 + 1 + 1) (by omega) K x (d + 1) _ _ hK.1 hK.2 (by omega) (by omega) hn (by omega))
    refine c_from h k0 k1 (by omega) (by omega) ⟨d0, by omega⟩ ?_
    rw [zr1 k0 k1, if_neg a1, if_neg a2, if_neg a3, c_run, show zbd 0 1 = 10 from rfl]
    unfold gX0_own_b2
    simp (disch := omega) only [↓(vq_113 (s0_note h (n := 10) (by omega))), ↓(vq_113 s), ↓zcall_ok, zcall_ok, ↓zjn_ok, zjn_ok, ↓zbl_0, zbl_0, ↓zbl_1, zbl_1, ↓if_pos, if_pos, ↓if_neg, if_neg, ↓zb_ite, zb_ite, ↓zb_itn, zb_itn, ↓gf_113, gf_113, ↓pf_113, pf_113, ↓vc_113, vc_113, if_true, if_false, not_true_eq_false, not_false_eq_true, zu_eq, zu_a, zu_j, ge_iff_le, gt_iff_lt, ne_eq, Int.cast_ofNat_Int, Int.add_zero, Int.zero_add, Int.reduceAdd, Int.reduceSub, Int.reduceMul, Int.reduceNeg]
    rfl
  have b2 : ∀ (n : Nat) (x d c : Int) (u : zMem), 0 ≤ d → d < 29 → zHC A K c u → c ≤ 750 → (gX0_own (n + 1 + 1 + 1 + 1 + 1 + 1 + 1 + 1 + 1)).2.1 113 2 1 x d u = some (zw32 (-tbV K x A), zfC (saT K) (znC 10 (znC 30 u))) := by
    intro n x d c u d0 d1 h hc
    have e := b0 n 1 x (d + 1) _ (znC 30 u) (by omega) (by omega) (by omega) (by omega) (by omega) (by omega) (by omega) (zHC_n h) (by omega)
    refine c_from h (by omega) (by omega) (by omega) (by omega) ⟨d0, by omega⟩ ?_
    rw [show zres 2 1 = 2 from rfl, c_run, show zbd 2 1 = 30 from rfl, show zupk 2 = 1 from rfl]
    unfold gX0_own_b2
    simp (disch := omega) only [↓(vq_113 (s0_note h (n := 30) (by omega))), ↓(vq_113 e), ↓zcall_ok, zcall_ok, ↓zjn_ok, zjn_ok, ↓zbl_0, zbl_0, ↓zbl_1, zbl_1, ↓if_pos, if_pos, ↓if_neg, if_neg, ↓zb_ite, zb_ite, ↓zb_itn, zb_itn, ↓gf_113, gf_113, ↓pf_113, pf_113, ↓vc_113, vc_113, if_true, if_false, not_true_eq_false, not_false_eq_true, zu_eq, zu_a, zu_j, ge_iff_le, gt_iff_lt, ne_eq, Int.cast_ofNat_Int, Int.add_zero, Int.zero_add, Int.reduceAdd, Int.reduceSub, Int.reduceMul, Int.reduceNeg]
  intro n hn k x d c u k0 k1 d0 d1 h hc
  obtain ⟨m, rfl⟩ : ∃ m, n = m + 1 + 1 + 1 + 1 + 1 + 1 + 1 + 1 + 1 + 1 + 1 := ⟨n - 11, by omega⟩
  unfold taV taT
  by_cases h7 : k = 7
  · rw [if_pos h7, if_pos h7]
    have e := b2 m x (d + 1) _ (znC 80 u) (by omega) (by omega) (zHC_n h) (by omega)
    have h3 := zHC_f (saT K) _ _ (zHC_n (n := 10) (zHC_n (n := 30) (zHC_n (n := 80) h)))
    have hl := saT_len K
    have s := c_own h3 (c_mends hK (m + 1 + 1 + 1 + 1 + 1 + 1 + 1 + 1) (by omega) K 2 (d + 1) _ _ hK.1 hK.2 (by omega) (by omega) h3 (by omega))
    refine c_from h k0 k1 (by omega) (by omega) ⟨d0, by omega⟩ ?_
    rw [zr1 k0 k1, if_pos h7, c_run, show zbd 7 1 = 80 from rfl, show zupk 7 = 2 from rfl]
    unfold gX0_own_b2
    simp (disch := omega) only [↓(vq_113 (s0_note h (n := 80) (by omega))), ↓(vq_113 e), ↓(vq_113 s), ↓zcall_ok, zcall_ok, ↓zjn_ok, zjn_ok, ↓zbl_0, zbl_0, ↓zbl_1, zbl_1, ↓if_pos, if_pos, ↓if_neg, if_neg, ↓zb_ite, zb_ite, ↓zb_itn, zb_itn, ↓gf_113, gf_113, ↓pf_113, pf_113, ↓vc_113, vc_113, if_true, if_false, not_true_eq_false, not_false_eq_true, zu_eq, zu_a, zu_j, ge_iff_le, gt_iff_lt, ne_eq, Int.cast_ofNat_Int, Int.add_zero, Int.zero_add, Int.reduceAdd, Int.reduceSub, Int.reduceMul, Int.reduceNeg]
    rw [zfC_app, zfC_app]
    rfl
  rw [if_neg h7, if_neg h7]
  by_cases h2 : k = 2
  · rw [if_pos h2, if_pos h2, h2, b2 (m + 1 + 1) x d c u d0 (by omega) h (by omega), zfC_app]
    rfl
  rw [if_neg h2, if_neg h2]
  by_cases h3 : k = 3 ∨ k = 5
  · rw [if_pos h3, if_pos h3]
    have e := b0 (m + 1 + 1) 1 (zw32 (x + 1)) (d + 1) _ (znC 41 u) (by omega) (by omega) (by omega) (by omega) (by omega) (by omega) (by omega) (zHC_n h) (by omega)
    refine c_from h k0 k1 (by omega) (by omega) ⟨d0, by omega⟩ ?_
    rw [zr1 k0 k1, if_neg h7, if_neg h2, if_pos h3, c_run, show zbd 3 1 = 41 from rfl, show zupk 3 = 1 from rfl]
    unfold gX0_own_b2
    simp (disch := omega) only [↓(vq_113 (s0_note h (n := 41) (by omega))), ↓(vq_113 e), ↓zcall_ok, zcall_ok, ↓zjn_ok, zjn_ok, ↓zbl_0, zbl_0, ↓zbl_1, zbl_1, ↓if_pos, if_pos, ↓if_neg, if_neg, ↓zb_ite, zb_ite, ↓zb_itn, zb_itn, ↓gf_113, gf_113, ↓pf_113, pf_113, ↓vc_113, vc_113, if_true, if_false, not_true_eq_false, not_false_eq_true, zu_eq, zu_a, zu_j, ge_iff_le, gt_iff_lt, ne_eq, Int.cast_ofNat_Int, Int.add_zero, Int.zero_add, Int.reduceAdd, Int.reduceSub, Int.reduceMul, Int.reduceNeg]
    rw [zfC_app]
    rfl
  · rw [if_neg h3, if_neg h3, b0 (m + 1 + 1 + 1 + 1) k x d c u k0 k1 h7 h2 h3 d0 (by omega) h (by omega), zfC_app]
    rfl
theorem c_joins {A K : Int} (hK : 0 ≤ K ∧ K < 8) : ∀ (n : Nat), 24 ≤ n → ∀ (k x d c : Int) (u : zMem), 0 ≤ k → k < 8 → 0 ≤ d → d ≤ 20 → zHC A K c u → c ≤ 600 → (gX0_own n).2.1 113 k 3 x d u = some (joV K k x A, zfC (joT K k) u) := by
  have b0 : ∀ (n : Nat) (k x d c : Int) (u : zMem), 16 ≤ n → 0 ≤ k → k < 8 → ¬ k = 4 → ¬ k = 5 → ¬ k = 7 → 0 ≤ d → d < 24 → zHC A K c u → c ≤ 650 → (gX0_own (n + 1 + 1 + 1)).2.1 113 k 3 x d u = some (jbV K x A, zfC ([2] ++ taT K K ++ meT K K) u) := by
    intro n k x d c u hn k0 k1 a1 a2 a3 d0 d1 h hc
    have hn2 := zHC_n (n := 2) h
    have s := c_own hn2 (c_takes hK n hn K x (d + 1) _ _ hK.1 hK.2 (by omega) (by omega) hn2 (by omega))
    have hm := zHC_f (taT K K) _ _ hn2
    have hl := taT_len K K
    have s2 := c_own hm (c_mends hK n (by omega) K 1 (d + 1) _ _ hK.1 hK.2 (by omega) (by omega) hm (by omega))
    refine c_from h k0 k1 (by omega) (by omega) ⟨d0, by omega⟩ ?_
    rw [zr3 k0 k1, if_neg a1, if_neg a2, if_neg a3, c_run, show zbd 0 3 = 2 from rfl]
    unfold gX0_own_b2
    simp (disch := omega) only [↓(vq_113 (s0_note h (n := 2) (by omega))), ↓(vq_113 s), ↓(vq_113 s2), ↓zcall_ok, zcall_ok, ↓zjn_ok, zjn_ok, ↓zbl_0, zbl_0, ↓zbl_1, zbl_1, ↓if_pos, if_pos, ↓if_neg, if_neg, ↓zb_ite, zb_ite, ↓zb_itn, zb_itn, ↓gf_113, gf_113, ↓pf_113, pf_113, ↓vc_113, vc_113, if_true, if_false, not_true_eq_false, not_false_eq_true, zu_eq, zu_a, zu_j, ge_iff_le, gt_iff_lt, ne_eq, Int.cast_ofNat_Int, Int.add_zero, Int.zero_add, Int.reduceAdd, Int.reduceSub, Int.reduceMul, Int.reduceNeg]
    rw [zfC_app, zfC_app]
    rfl
  intro n hn k x d c u k0 k1 d0 d1 h hc
  obtain ⟨m, rfl⟩ : ∃ m, n = m + 1 + 1 + 1 + 1 + 1 := ⟨n - 5, by omega⟩
  unfold joV joT
  rw [zfC_app]
  by_cases h4 : k = 4
  · rw [if_pos h4, if_pos h4]
    have e := b0 m 0 x (d + 1) _ (znC 50 u) (by omega) (by omega) (by omega) (by omega) (by omega) (by omega) (by omega) (by omega) (zHC_n h) (by omega)
    refine c_from h k0 k1 (by omega) (by omega) ⟨d0, by omega⟩ ?_
    rw [zr3 k0 k1, if_pos h4, c_run, show zbd 4 3 = 50 from rfl, show zupk 4 = 0 from rfl]
    unfold gX0_own_b2
    simp (disch := omega) only [↓(vq_113 (s0_note h (n := 50) (by omega))), ↓(vq_113 e), ↓zcall_ok, zcall_ok, ↓zjn_ok, zjn_ok, ↓zbl_0, zbl_0, ↓zbl_1, zbl_1, ↓if_pos, if_pos, ↓if_neg, if_neg, ↓zb_ite, zb_ite, ↓zb_itn, zb_itn, ↓gf_113, gf_113, ↓pf_113, pf_113, ↓vc_113, vc_113, if_true, if_false, not_true_eq_false, not_false_eq_true, zu_eq, zu_a, zu_j, ge_iff_le, gt_iff_lt, ne_eq, Int.cast_ofNat_Int, Int.add_zero, Int.zero_add, Int.reduceAdd, Int.reduceSub, Int.reduceMul, Int.reduceNeg]
    rfl
  rw [if_neg h4, if_neg h4]
  by_cases h5 : k = 5
  · rw [if_pos h5, if_pos h5]
    have e := b0 m 3 x (d + 1) _ (znC 61 u) (by omega) (by omega) (by omega) (by omega) (by omega) (by omega) (by omega) (by omega) (zHC_n h) (by omega)
    refine c_from h k0 k1 (by omega) (by omega) ⟨d0, by omega⟩ ?_
    rw [zr3 k0 k1, if_neg h4, if_pos h5, c_run, show zbd 5 3 = 61 from rfl, show zupk 5 = 3 from rfl]
    unfold gX0_own_b2
    simp (disch := omega) only [↓(vq_113 (s0_note h (n := 61) (by omega))), ↓(vq_113 e), ↓zcall_ok, zcall_ok, ↓zjn_ok, zjn_ok, ↓zbl_0, zbl_0, ↓zbl_1, zbl_1, ↓if_pos, if_pos, ↓if_neg, if_neg, ↓zb_ite, zb_ite, ↓zb_itn, zb_itn, ↓gf_113, gf_113, ↓pf_113, pf_113, ↓vc_113, vc_113, if_true, if_false, not_true_eq_false, not_false_eq_true, zu_eq, zu_a, zu_j, ge_iff_le, gt_iff_lt, ne_eq, Int.cast_ofNat_Int, Int.add_zero, Int.zero_add, Int.reduceAdd, Int.reduceSub, Int.reduceMul, Int.reduceNeg]
    rfl
  rw [if_neg h5, if_neg h5]
  by_cases h7 : k = 7
  · rw [if_pos h7, if_pos h7]
    have e := b0 m 2 x (d + 1) _ (znC 81 u) (by omega) (by omega) (by omega) (by omega) (by omega) (by omega) (by omega) (by omega) (zHC_n h) (by omega)
    refine c_from h k0 k1 (by omega) (by omega) ⟨d0, by omega⟩ ?_
    rw [zr3 k0 k1, if_neg h4, if_neg h5, if_pos h7, c_run, show zbd 7 3 = 81 from rfl, show zupk 7 = 2 from rfl]
    unfold gX0_own_b2
    simp (disch := omega) only [↓(vq_113 (s0_note h (n := 81) (by omega))), ↓(vq_113 e), ↓zcall_ok, zcall_ok, ↓zjn_ok, zjn_ok, ↓zbl_0, zbl_0, ↓zbl_1, zbl_1, ↓if_pos, if_pos, ↓if_neg, if_neg, ↓zb_ite, zb_ite, ↓zb_itn, zb_itn, ↓gf_113, gf_113, ↓pf_113, pf_113, ↓vc_113, vc_113, if_true, if_false, not_true_eq_false, not_false_eq_true, zu_eq, zu_a, zu_j, ge_iff_le, gt_iff_lt, ne_eq, Int.cast_ofNat_Int, Int.add_zero, Int.zero_add, Int.reduceAdd, Int.reduceSub, Int.reduceMul, Int.reduceNeg]
    rfl
  · rw [if_neg h7, if_neg h7, b0 (m + 1 + 1) k x d c u (by omega) k0 k1 h4 h5 h7 d0 (by omega) h (by omega)]
    rfl
def zacV (t K x A : Int) : Int := if t = 0 then saV K x A else if t = 1 then taV K K x A else if t = 2 then meV K K x A else joV K K x A
def zacT (t K : Int) : List Int := if t = 0 then saT K else if t = 1 then taT K K else if t = 2 then meT K K else joT K K
theorem zfC_N : ∀ (T : List Int) (u : zMem), (zfC T u) 113 3 = u 113 3 + T.length
  | [], u => by simp [zfC]
  | n :: t, u => by
    have e : znC n u 113 3 = u 113 3 + 1 := by unfold znC; rw [zu_eq]
    have := zfC_N t (znC n u)
    rw [e] at this
    rw [show (zfC (n :: t) u) = zfC t (znC n u) from rfl, this, List.length_cons]
    omega
theorem zacT_len (t K : Int) : (zacT t K).length ≤ 40 := by
  have h1 := saT_len K
  have h2 := meT_len K K
  have h3 := taT_len K K
  unfold zacT
  split
  · omega
  split
  · omega
  split
  · omega
  unfold joT
  split <;> (try split) <;> (try split) <;> simp <;> omega
theorem op_act {μ : zMem} (hG : zG0 μ) (hB : zGB μ) (b t x : Int) : ∃ r μ1 μ2, fX10_act 5 b t x μ = some (r, μ1) ∧ fX11_act 129 b t x μ1 = some (r, μ2) ∧ zGB μ2 ∧ μ2 113 2 = μ 113 2 := by
  have hBc := hB
  obtain ⟨⟨h0, h1, h2, h3, h4⟩, h5, h6, h7, h8⟩ := hBc
  have hG1 : zG0 (zupd μ 113 3 0) := zG0_up hG rfl
  by_cases hc : (0 ≤ b ∧ b < μ 113 2) ∧ 0 ≤ t ∧ t ≤ 3
  · obtain ⟨hb, ht⟩ := hc
    have hk := h3 b hb.1 hb.2
    have hk2 := h4 b hb.1 hb.2
    generalize hKe : μ 114 b = K at hk hk2
    -- the class
    have hC : zHC b K 0 (zupd (zupd μ 113 3 0) 113 4 b) := ⟨zG0_up hG1 rfl, by simp (disch := omega) only [if_true, if_false, not_true_eq_false, not_false_eq_true, zcall_ok, zjn_ok, zbl_0, zbl_1, zu_eq, zu_a, zu_j, if_pos, if_neg, ge_iff_le, gt_iff_lt, ne_eq, Int.cast_ofNat_Int, Int.add_zero, Int.zero_add, Int.reduceAdd, Int.reduceSub, Int.reduceMul, Int.reduceNeg, gf_6, pf_6, vc_6], by simp (disch := omega) only [if_true, if_false, not_true_eq_false, not_false_eq_true, zcall_ok, zjn_ok, zbl_0, zbl_1, zu_eq, zu_a, zu_j, if_pos, if_neg, ge_iff_le, gt_iff_lt, ne_eq, Int.cast_ofNat_Int, Int.add_zero, Int.zero_add, Int.reduceAdd, Int.reduceSub, Int.reduceMul, Int.reduceNeg, gf_6, pf_6, vc_6]; omega, by simp (disch := omega) only [if_true, if_false, not_true_eq_false, not_false_eq_true, zcall_ok, zjn_ok, zbl_0, zbl_1, zu_eq, zu_a, zu_j, if_pos, if_neg, ge_iff_le, gt_iff_lt, ne_eq, Int.cast_ofNat_Int, Int.add_zero, Int.zero_add, Int.reduceAdd, Int.reduceSub, Int.reduceMul, Int.reduceNeg, gf_6, pf_6, vc_6]; exact hKe, by simp (disch := omega) only [if_true, if_false, not_true_eq_false, not_false_eq_true, zcall_ok, zjn_ok, zbl_0, zbl_1, zu_eq, zu_a, zu_j, if_pos, if_neg, ge_iff_le, gt_iff_lt, ne_eq, Int.cast_ofNat_Int, Int.add_zero, Int.zero_add, Int.reduceAdd, Int.reduceSub, Int.reduceMul, Int.reduceNeg, gf_6, pf_6, vc_6]; omega, by simp (disch := omega) only [if_true, if_false, not_true_eq_false, not_false_eq_true, zcall_ok, zjn_ok, zbl_0, zbl_1, zu_eq, zu_a, zu_j, if_pos, if_neg, ge_iff_le, gt_iff_lt, ne_eq, Int.cast_ofNat_Int, Int.add_zero, Int.zero_add, Int.reduceAdd, Int.reduceSub, Int.reduceMul, Int.reduceNeg, gf_6, pf_6, vc_6]; omega⟩
    have hrun : ∀ y : Int, (gX0_own 200).1 113 t y 0 (zupd (zupd μ 113 3 0) 113 4 b) = some (zacV t K y b, zfC (zacT t K) (zupd (zupd μ 113 3 0) 113 4 b)) := by
      intro y
      unfold zacV zacT
      rcases (show t = 0 ∨ t = 1 ∨ t = 2 ∨ t = 3 by omega) with rfl | rfl | rfl | rfl
      · exact c_own hC (c_says 199 (by omega) K y 0 0 _ hk.1 hk.2 (by omega) (by omega) hC (by omega))
      · exact c_own hC (c_takes hk 199 (by omega) K y 0 0 _ hk.1 hk.2 (by omega) (by omega) hC (by omega))
      · exact c_own hC (c_mends hk 199 (by omega) K y 0 0 _ hk.1 hk.2 (by omega) (by omega) hC (by omega))
      · exact c_own hC (c_joins hk 199 (by omega) K y 0 0 _ hk.1 hk.2 (by omega) (by omega) hC (by omega))
    have e10 : fX10_act 5 b t x μ = some (zacV t K x b, zfC (zacT t K) (zupd (zupd μ 113 3 0) 113 4 b)) := by
      have hr : fX0_own 113 t x 0 (zupd (zupd μ 113 3 0) 113 4 b) = _ := hrun x
      have hh : fX0_has 113 b (zupd μ 113 3 0) = some (zb (0 ≤ b ∧ b < μ 113 2), zupd μ 113 3 0) := by rw [s0_has]; simp (disch := omega) only [if_true, if_false, not_true_eq_false, not_false_eq_true, zcall_ok, zjn_ok, zbl_0, zbl_1, zu_eq, zu_a, zu_j, if_pos, if_neg, ge_iff_le, gt_iff_lt, ne_eq, Int.cast_ofNat_Int, Int.add_zero, Int.zero_add, Int.reduceAdd, Int.reduceSub, Int.reduceMul, Int.reduceNeg, gf_6, pf_6, vc_6]
      unfold fX10_act fX0_begin
      simp (disch := omega) only [↓(vq_113 hh), ↓(vq_113 hr), ↓zcall_ok, zcall_ok, ↓zjn_ok, zjn_ok, ↓zbl_0, zbl_0, ↓zbl_1, zbl_1, ↓if_pos, if_pos, ↓if_neg, if_neg, ↓zb_ite, zb_ite, ↓zb_itn, zb_itn, ↓gf_5, gf_5, ↓pf_5, pf_5, ↓vc_5, vc_5, ↓gf_113, gf_113, ↓pf_113, pf_113, ↓vc_113, vc_113, if_true, if_false, not_true_eq_false, not_false_eq_true, zu_eq, zu_a, zu_j, ge_iff_le, gt_iff_lt, ne_eq, Int.cast_ofNat_Int, Int.add_zero, Int.zero_add, Int.reduceAdd, Int.reduceSub, Int.reduceMul, Int.reduceNeg, ↓gq_5_0 hG, ↓gq_5_1 hG, ↓gq_5_2 hG, ↓gq_5_3 hG, ↓gq_5_4 hG, ↓gq_5_5 hG, ↓gq_5_6 hG, ↓gq_113_0 hG, ↓gq_113_1 hG, g_5_0 hG, g_5_1 hG, g_5_2 hG, g_5_3 hG, g_5_4 hG, g_5_5 hG, g_5_6 hG, g_113_0 hG, g_113_1 hG]
    have hm1 := mX10_act 5 b t x μ hG zagr_refl _ _ e10
    have hN := zfC_N (zacT t K) (zupd (zupd μ 113 3 0) 113 4 b)
    have hl := zacT_len t K
    have hT0 : zTR (zupd (zupd μ 113 3 0) 113 4 b) (zupd (zupd (zupd (zfC (zacT t K) (zupd (zupd μ 113 3 0) 113 4 b)) 129 30 0) 129 31 K) 129 32 b) := ⟨by simp (disch := omega) only [if_true, if_false, not_true_eq_false, not_false_eq_true, zcall_ok, zjn_ok, zbl_0, zbl_1, zu_eq, zu_a, zu_j, if_pos, if_neg, ge_iff_le, gt_iff_lt, ne_eq, Int.cast_ofNat_Int, Int.add_zero, Int.zero_add, Int.reduceAdd, Int.reduceSub, Int.reduceMul, Int.reduceNeg, gf_6, pf_6, vc_6], by simp (disch := omega) only [if_true, if_false, not_true_eq_false, not_false_eq_true, zcall_ok, zjn_ok, zbl_0, zbl_1, zu_eq, zu_a, zu_j, if_pos, if_neg, ge_iff_le, gt_iff_lt, ne_eq, Int.cast_ofNat_Int, Int.add_zero, Int.zero_add, Int.reduceAdd, Int.reduceSub, Int.reduceMul, Int.reduceNeg, gf_6, pf_6, vc_6]; omega, fun k k0 k1 k2 => by
      have k1 : k < 0 := by revert k1; simp (disch := omega) only [if_true, if_false, not_true_eq_false, not_false_eq_true, zcall_ok, zjn_ok, zbl_0, zbl_1, zu_eq, zu_a, zu_j, if_pos, if_neg, ge_iff_le, gt_iff_lt, ne_eq, Int.cast_ofNat_Int, Int.add_zero, Int.zero_add, Int.reduceAdd, Int.reduceSub, Int.reduceMul, Int.reduceNeg, gf_6, pf_6, vc_6]; exact id
      omega⟩
    have hT := zTR_f (zacT t K) _ _ hT0
    have hN0 : zupd (zupd μ 113 3 0) 113 4 b 113 3 = 0 := by simp (disch := omega) only [if_true, if_false, not_true_eq_false, not_false_eq_true, zcall_ok, zjn_ok, zbl_0, zbl_1, zu_eq, zu_a, zu_j, if_pos, if_neg, ge_iff_le, gt_iff_lt, ne_eq, Int.cast_ofNat_Int, Int.add_zero, Int.zero_add, Int.reduceAdd, Int.reduceSub, Int.reduceMul, Int.reduceNeg, gf_6, pf_6, vc_6]
    rw [hN0] at hN
    generalize zfC (zacT t K) (zupd (zupd μ 113 3 0) 113 4 b) = μ1 at e10 hm1 hN hT
    obtain ⟨hGb, ha1⟩ := hm1
    have hR : zHR b K 0 (zupd (zupd (zupd μ1 129 30 0) 129 31 K) 129 32 b) := ⟨zG0_up (zG0_up (zG0_up hGb rfl) rfl) rfl, by simp (disch := omega) only [if_true, if_false, not_true_eq_false, not_false_eq_true, zcall_ok, zjn_ok, zbl_0, zbl_1, zu_eq, zu_a, zu_j, if_pos, if_neg, ge_iff_le, gt_iff_lt, ne_eq, Int.cast_ofNat_Int, Int.add_zero, Int.zero_add, Int.reduceAdd, Int.reduceSub, Int.reduceMul, Int.reduceNeg, gf_6, pf_6, vc_6], by simp (disch := omega) only [if_true, if_false, not_true_eq_false, not_false_eq_true, zcall_ok, zjn_ok, zbl_0, zbl_1, zu_eq, zu_a, zu_j, if_pos, if_neg, ge_iff_le, gt_iff_lt, ne_eq, Int.cast_ofNat_Int, Int.add_zero, Int.zero_add, Int.reduceAdd, Int.reduceSub, Int.reduceMul, Int.reduceNeg, gf_6, pf_6, vc_6], by simp (disch := omega) only [if_true, if_false, not_true_eq_false, not_false_eq_true, zcall_ok, zjn_ok, zbl_0, zbl_1, zu_eq, zu_a, zu_j, if_pos, if_neg, ge_iff_le, gt_iff_lt, ne_eq, Int.cast_ofNat_Int, Int.add_zero, Int.zero_add, Int.reduceAdd, Int.reduceSub, Int.reduceMul, Int.reduceNeg, gf_6, pf_6, vc_6]; omega, by simp (disch := omega) only [if_true, if_false, not_true_eq_false, not_false_eq_true, zcall_ok, zjn_ok, zbl_0, zbl_1, zu_eq, zu_a, zu_j, if_pos, if_neg, ge_iff_le, gt_iff_lt, ne_eq, Int.cast_ofNat_Int, Int.add_zero, Int.zero_add, Int.reduceAdd, Int.reduceSub, Int.reduceMul, Int.reduceNeg, gf_6, pf_6, vc_6]; omega⟩
    have q27 : μ1 129 27 = μ 113 2 := (zag ha1 tf_129_27).trans h2
    have q2 : μ1 113 2 = μ 113 2 := zag ha1 tf_113_2
    have q46 : μ1 146 b = K := (zag ha1 (tg_146 b)).trans hk2
    have hbd : fX11_isBody 129 b (zupd μ1 129 30 0) = some (zb (0 ≤ b ∧ b < μ 113 2), zupd μ1 129 30 0) := by
      rw [s11_isBody (by simp (disch := omega) only [if_true, if_false, not_true_eq_false, not_false_eq_true, zcall_ok, zjn_ok, zbl_0, zbl_1, zu_eq, zu_a, zu_j, if_pos, if_neg, ge_iff_le, gt_iff_lt, ne_eq, Int.cast_ofNat_Int, Int.add_zero, Int.zero_add, Int.reduceAdd, Int.reduceSub, Int.reduceMul, Int.reduceNeg, gf_6, pf_6, vc_6]; omega) (by simp (disch := omega) only [if_true, if_false, not_true_eq_false, not_false_eq_true, zcall_ok, zjn_ok, zbl_0, zbl_1, zu_eq, zu_a, zu_j, if_pos, if_neg, ge_iff_le, gt_iff_lt, ne_eq, Int.cast_ofNat_Int, Int.add_zero, Int.zero_add, Int.reduceAdd, Int.reduceSub, Int.reduceMul, Int.reduceNeg, gf_6, pf_6, vc_6]; omega) (by simp (disch := omega) only [if_true, if_false, not_true_eq_false, not_false_eq_true, zcall_ok, zjn_ok, zbl_0, zbl_1, zu_eq, zu_a, zu_j, if_pos, if_neg, ge_iff_le, gt_iff_lt, ne_eq, Int.cast_ofNat_Int, Int.add_zero, Int.zero_add, Int.reduceAdd, Int.reduceSub, Int.reduceMul, Int.reduceNeg, gf_6, pf_6, vc_6]; omega)]
      simp (disch := omega) only [q2, if_true, if_false, not_true_eq_false, not_false_eq_true, zcall_ok, zjn_ok, zbl_0, zbl_1, zu_eq, zu_a, zu_j, if_pos, if_neg, ge_iff_le, gt_iff_lt, ne_eq, Int.cast_ofNat_Int, Int.add_zero, Int.zero_add, Int.reduceAdd, Int.reduceSub, Int.reduceMul, Int.reduceNeg, gf_6, pf_6, vc_6]
    have hK3 : zupd (zupd (zupd μ1 129 30 0) 129 31 K) 129 32 b 129 31 = K := by simp (disch := omega) only [if_true, if_false, not_true_eq_false, not_false_eq_true, zcall_ok, zjn_ok, zbl_0, zbl_1, zu_eq, zu_a, zu_j, if_pos, if_neg, ge_iff_le, gt_iff_lt, ne_eq, Int.cast_ofNat_Int, Int.add_zero, Int.zero_add, Int.reduceAdd, Int.reduceSub, Int.reduceMul, Int.reduceNeg, gf_6, pf_6, vc_6]
    have e11 : fX11_act 129 b t x μ1 = some (zacV t K x b, zfR (zacT t K) (zupd (zupd (zupd μ1 129 30 0) 129 31 K) 129 32 b)) := by
      unfold fX11_act zacV zacT
      rcases (show t = 0 ∨ t = 1 ∨ t = 2 ∨ t = 3 by omega) with rfl | rfl | rfl | rfl
      · have s : fX11_saysAs 129 K x (zupd (zupd (zupd μ1 129 30 0) 129 31 K) 129 32 b) = _ := r_says 200 (by omega) K x 0 _ hk.1 hk.2 hR (by omega)
        simp (disch := omega) only [↓(vq_129 hbd), q46, ↓(vq_129 s), ↓zcall_ok, zcall_ok, ↓zjn_ok, zjn_ok, ↓zbl_0, zbl_0, ↓zbl_1, zbl_1, ↓if_pos, if_pos, ↓if_neg, if_neg, ↓zb_ite, zb_ite, ↓zb_itn, zb_itn, ↓gf_129, gf_129, ↓pf_129, pf_129, ↓vc_129, vc_129, ↓al_146, al_146, ↓as_146, as_146, ↓ln_146, ln_146, if_true, if_false, not_true_eq_false, not_false_eq_true, zu_eq, zu_a, zu_j, ge_iff_le, gt_iff_lt, ne_eq, Int.cast_ofNat_Int, Int.add_zero, Int.zero_add, Int.reduceAdd, Int.reduceSub, Int.reduceMul, Int.reduceNeg, ↓gq_129_0 hGb, ↓gq_129_1 hGb, ↓gq_129_2 hGb, ↓gq_129_3 hGb, ↓gq_129_7 hGb, ↓gq_129_10 hGb, ↓gq_129_11 hGb, ↓gq_129_12 hGb, ↓gq_129_13 hGb, ↓gq_129_19 hGb, ↓gq_129_21 hGb, ↓gq_129_22 hGb, ↓gq_129_23 hGb, ↓gq_129_24 hGb, ↓gq_129_25 hGb, ↓gq_129_26 hGb, ↓gq_129_28 hGb, ↓gq_129_29 hGb, ↓gq_129_33 hGb, ↓gq_129_34 hGb, ↓gq_129_35 hGb, ↓gq_129_36 hGb, g_129_0 hGb, g_129_1 hGb, g_129_2 hGb, g_129_3 hGb, g_129_7 hGb, g_129_10 hGb, g_129_11 hGb, g_129_12 hGb, g_129_13 hGb, g_129_19 hGb, g_129_21 hGb, g_129_22 hGb, g_129_23 hGb, g_129_24 hGb, g_129_25 hGb, g_129_26 hGb, g_129_28 hGb, g_129_29 hGb, g_129_33 hGb, g_129_34 hGb, g_129_35 hGb, g_129_36 hGb]
      · have s : fX11_takesAs 129 K x (zupd (zupd (zupd μ1 129 30 0) 129 31 K) 129 32 b) = _ := r_takes hk 200 (by omega) K x 0 _ hk.1 hk.2 hR (by omega)
        simp (disch := omega) only [↓(vq_129 hbd), q46, ↓(vq_129 s), ↓zcall_ok, zcall_ok, ↓zjn_ok, zjn_ok, ↓zbl_0, zbl_0, ↓zbl_1, zbl_1, ↓if_pos, if_pos, ↓if_neg, if_neg, ↓zb_ite, zb_ite, ↓zb_itn, zb_itn, ↓gf_129, gf_129, ↓pf_129, pf_129, ↓vc_129, vc_129, ↓al_146, al_146, ↓as_146, as_146, ↓ln_146, ln_146, if_true, if_false, not_true_eq_false, not_false_eq_true, zu_eq, zu_a, zu_j, ge_iff_le, gt_iff_lt, ne_eq, Int.cast_ofNat_Int, Int.add_zero, Int.zero_add, Int.reduceAdd, Int.reduceSub, Int.reduceMul, Int.reduceNeg, ↓gq_129_0 hGb, ↓gq_129_1 hGb, ↓gq_129_2 hGb, ↓gq_129_3 hGb, ↓gq_129_7 hGb, ↓gq_129_10 hGb, ↓gq_129_11 hGb, ↓gq_129_12 hGb, ↓gq_129_13 hGb, ↓gq_129_19 hGb, ↓gq_129_21 hGb, ↓gq_129_22 hGb, ↓gq_129_23 hGb, ↓gq_129_24 hGb, ↓gq_129_25 hGb, ↓gq_129_26 hGb, ↓gq_129_28 hGb, ↓gq_129_29 hGb, ↓gq_129_33 hGb, ↓gq_129_34 hGb, ↓gq_129_35 hGb, ↓gq_129_36 hGb, g_129_0 hGb, g_129_1 hGb, g_129_2 hGb, g_129_3 hGb, g_129_7 hGb, g_129_10 hGb, g_129_11 hGb, g_129_12 hGb, g_129_13 hGb, g_129_19 hGb, g_129_21 hGb, g_129_22 hGb, g_129_23 hGb, g_129_24 hGb, g_129_25 hGb, g_129_26 hGb, g_129_28 hGb, g_129_29 hGb, g_129_33 hGb, g_129_34 hGb, g_129_35 hGb, g_129_36 hGb]
      · have s : fX11_mendsAs 129 K x (zupd (zupd (zupd μ1 129 30 0) 129 31 K) 129 32 b) = _ := r_mends hk 200 (by omega) K x 0 _ hk.1 hk.2 hR (by omega)
        simp (disch := omega) only [↓(vq_129 hbd), q46, ↓(vq_129 s), ↓zcall_ok, zcall_ok, ↓zjn_ok, zjn_ok, ↓zbl_0, zbl_0, ↓zbl_1, zbl_1, ↓if_pos, if_pos, ↓if_neg, if_neg, ↓zb_ite, zb_ite, ↓zb_itn, zb_itn, ↓gf_129, gf_129, ↓pf_129, pf_129, ↓vc_129, vc_129, ↓al_146, al_146, ↓as_146, as_146, ↓ln_146, ln_146, if_true, if_false, not_true_eq_false, not_false_eq_true, zu_eq, zu_a, zu_j, ge_iff_le, gt_iff_lt, ne_eq, Int.cast_ofNat_Int, Int.add_zero, Int.zero_add, Int.reduceAdd, Int.reduceSub, Int.reduceMul, Int.reduceNeg, ↓gq_129_0 hGb, ↓gq_129_1 hGb, ↓gq_129_2 hGb, ↓gq_129_3 hGb, ↓gq_129_7 hGb, ↓gq_129_10 hGb, ↓gq_129_11 hGb, ↓gq_129_12 hGb, ↓gq_129_13 hGb, ↓gq_129_19 hGb, ↓gq_129_21 hGb, ↓gq_129_22 hGb, ↓gq_129_23 hGb, ↓gq_129_24 hGb, ↓gq_129_25 hGb, ↓gq_129_26 hGb, ↓gq_129_28 hGb, ↓gq_129_29 hGb, ↓gq_129_33 hGb, ↓gq_129_34 hGb, ↓gq_129_35 hGb, ↓gq_129_36 hGb, g_129_0 hGb, g_129_1 hGb, g_129_2 hGb, g_129_3 hGb, g_129_7 hGb, g_129_10 hGb, g_129_11 hGb, g_129_12 hGb, g_129_13 hGb, g_129_19 hGb, g_129_21 hGb, g_129_22 hGb, g_129_23 hGb, g_129_24 hGb, g_129_25 hGb, g_129_26 hGb, g_129_28 hGb, g_129_29 hGb, g_129_33 hGb, g_129_34 hGb, g_129_35 hGb, g_129_36 hGb]
      · have s : fX11_joinsAs 129 K x (zupd (zupd (zupd μ1 129 30 0) 129 31 K) 129 32 b) = _ := r_joins hk 200 (by omega) K x 0 _ hk.1 hk.2 hR (by omega)
        simp (disch := omega) only [↓(vq_129 hbd), q46, ↓(vq_129 s), ↓zcall_ok, zcall_ok, ↓zjn_ok, zjn_ok, ↓zbl_0, zbl_0, ↓zbl_1, zbl_1, ↓if_pos, if_pos, ↓if_neg, if_neg, ↓zb_ite, zb_ite, ↓zb_itn, zb_itn, ↓gf_129, gf_129, ↓pf_129, pf_129, ↓vc_129, vc_129, ↓al_146, al_146, ↓as_146, as_146, ↓ln_146, ln_146, if_true, if_false, not_true_eq_false, not_false_eq_true, zu_eq, zu_a, zu_j, ge_iff_le, gt_iff_lt, ne_eq, Int.cast_ofNat_Int, Int.add_zero, Int.zero_add, Int.reduceAdd, Int.reduceSub, Int.reduceMul, Int.reduceNeg, ↓gq_129_0 hGb, ↓gq_129_1 hGb, ↓gq_129_2 hGb, ↓gq_129_3 hGb, ↓gq_129_7 hGb, ↓gq_129_10 hGb, ↓gq_129_11 hGb, ↓gq_129_12 hGb, ↓gq_129_13 hGb, ↓gq_129_19 hGb, ↓gq_129_21 hGb, ↓gq_129_22 hGb, ↓gq_129_23 hGb, ↓gq_129_24 hGb, ↓gq_129_25 hGb, ↓gq_129_26 hGb, ↓gq_129_28 hGb, ↓gq_129_29 hGb, ↓gq_129_33 hGb, ↓gq_129_34 hGb, ↓gq_129_35 hGb, ↓gq_129_36 hGb, g_129_0 hGb, g_129_1 hGb, g_129_2 hGb, g_129_3 hGb, g_129_7 hGb, g_129_10 hGb, g_129_11 hGb, g_129_12 hGb, g_129_13 hGb, g_129_19 hGb, g_129_21 hGb, g_129_22 hGb, g_129_23 hGb, g_129_24 hGb, g_129_25 hGb, g_129_26 hGb, g_129_28 hGb, g_129_29 hGb, g_129_33 hGb, g_129_34 hGb, g_129_35 hGb, g_129_36 hGb]
    obtain ⟨-, ha2⟩ := mX11_act 129 b t x μ1 hGb zagr_refl _ _ e11
    generalize zfR (zacT t K) (zupd (zupd (zupd μ1 129 30 0) 129 31 K) 129 32 b) = μ2 at e11 hT ha2
    have w2 : μ2 113 2 = μ 113 2 := (zag ha2 tf_113_2).trans q2
    have w3 : μ2 113 3 = μ1 113 3 := zag ha2 tf_113_3
    refine ⟨_, _, _, e10, e11, ⟨⟨by omega, by omega, ?_, fun k k0 k1 => ?_, fun k k0 k1 => ?_⟩, by omega, by omega, by rw [w3, hT.1], fun k k0 k1 k2 => ?_⟩, w2⟩
    · rw [w2, zag ha2 tf_129_27]; exact q27
    · rw [zag ha2 (tg_114 k), zag ha1 (tg_114 k)]; exact h3 k k0 (by omega)
    · rw [zag ha2 (tg_146 k), zag ha1 (tg_146 k), zag ha2 (tg_114 k), zag ha1 (tg_114 k)]; exact h4 k k0 (by omega)
    · rw [zag ha2 (tg_115 k)]; exact hT.2.2 k k0 (by omega) k2
  · have hh : fX0_has 113 b (zupd μ 113 3 0) = some (zb (0 ≤ b ∧ b < μ 113 2), zupd μ 113 3 0) := by rw [s0_has]; simp (disch := omega) only [if_true, if_false, not_true_eq_false, not_false_eq_true, zcall_ok, zjn_ok, zbl_0, zbl_1, zu_eq, zu_a, zu_j, if_pos, if_neg, ge_iff_le, gt_iff_lt, ne_eq, Int.cast_ofNat_Int, Int.add_zero, Int.zero_add, Int.reduceAdd, Int.reduceSub, Int.reduceMul, Int.reduceNeg, gf_6, pf_6, vc_6]
    have e10 : fX10_act 5 b t x μ = some (0, zupd μ 113 3 0) := by
      unfold fX10_act fX0_begin
      by_cases hb : 0 ≤ b ∧ b < μ 113 2
      · by_cases ht : t < 0
        · simp (disch := omega) only [↓(vq_113 hh), ↓zcall_ok, zcall_ok, ↓zjn_ok, zjn_ok, ↓zbl_0, zbl_0, ↓zbl_1, zbl_1, ↓if_pos, if_pos, ↓if_neg, if_neg, ↓zb_ite, zb_ite, ↓zb_itn, zb_itn, ↓gf_5, gf_5, ↓pf_5, pf_5, ↓vc_5, vc_5, ↓gf_113, gf_113, ↓pf_113, pf_113, ↓vc_113, vc_113, if_true, if_false, not_true_eq_false, not_false_eq_true, zu_eq, zu_a, zu_j, ge_iff_le, gt_iff_lt, ne_eq, Int.cast_ofNat_Int, Int.add_zero, Int.zero_add, Int.reduceAdd, Int.reduceSub, Int.reduceMul, Int.reduceNeg, ↓gq_5_0 hG, ↓gq_5_1 hG, ↓gq_5_2 hG, ↓gq_5_3 hG, ↓gq_5_4 hG, ↓gq_5_5 hG, ↓gq_5_6 hG, ↓gq_113_0 hG, ↓gq_113_1 hG, g_5_0 hG, g_5_1 hG, g_5_2 hG, g_5_3 hG, g_5_4 hG, g_5_5 hG, g_5_6 hG, g_113_0 hG, g_113_1 hG]
        · simp (disch := omega) only [↓(vq_113 hh), ↓zcall_ok, zcall_ok, ↓zjn_ok, zjn_ok, ↓zbl_0, zbl_0, ↓zbl_1, zbl_1, ↓if_pos, if_pos, ↓if_neg, if_neg, ↓zb_ite, zb_ite, ↓zb_itn, zb_itn, ↓gf_5, gf_5, ↓pf_5, pf_5, ↓vc_5, vc_5, ↓gf_113, gf_113, ↓pf_113, pf_113, ↓vc_113, vc_113, if_true, if_false, not_true_eq_false, not_false_eq_true, zu_eq, zu_a, zu_j, ge_iff_le, gt_iff_lt, ne_eq, Int.cast_ofNat_Int, Int.add_zero, Int.zero_add, Int.reduceAdd, Int.reduceSub, Int.reduceMul, Int.reduceNeg, ↓gq_5_0 hG, ↓gq_5_1 hG, ↓gq_5_2 hG, ↓gq_5_3 hG, ↓gq_5_4 hG, ↓gq_5_5 hG, ↓gq_5_6 hG, ↓gq_113_0 hG, ↓gq_113_1 hG, g_5_0 hG, g_5_1 hG, g_5_2 hG, g_5_3 hG, g_5_4 hG, g_5_5 hG, g_5_6 hG, g_113_0 hG, g_113_1 hG]
      · simp (disch := omega) only [↓(vq_113 hh), ↓zcall_ok, zcall_ok, ↓zjn_ok, zjn_ok, ↓zbl_0, zbl_0, ↓zbl_1, zbl_1, ↓if_pos, if_pos, ↓if_neg, if_neg, ↓zb_ite, zb_ite, ↓zb_itn, zb_itn, ↓gf_5, gf_5, ↓pf_5, pf_5, ↓vc_5, vc_5, ↓gf_113, gf_113, ↓pf_113, pf_113, ↓vc_113, vc_113, if_true, if_false, not_true_eq_false, not_false_eq_true, zu_eq, zu_a, zu_j, ge_iff_le, gt_iff_lt, ne_eq, Int.cast_ofNat_Int, Int.add_zero, Int.zero_add, Int.reduceAdd, Int.reduceSub, Int.reduceMul, Int.reduceNeg, ↓gq_5_0 hG, ↓gq_5_1 hG, ↓gq_5_2 hG, ↓gq_5_3 hG, ↓gq_5_4 hG, ↓gq_5_5 hG, ↓gq_5_6 hG, ↓gq_113_0 hG, ↓gq_113_1 hG, g_5_0 hG, g_5_1 hG, g_5_2 hG, g_5_3 hG, g_5_4 hG, g_5_5 hG, g_5_6 hG, g_113_0 hG, g_113_1 hG]
    have hbd : fX11_isBody 129 b (zupd (zupd μ 113 3 0) 129 30 0) = some (zb (0 ≤ b ∧ b < μ 113 2), zupd (zupd μ 113 3 0) 129 30 0) := by
      rw [s11_isBody (by simp (disch := omega) only [if_true, if_false, not_true_eq_false, not_false_eq_true, zcall_ok, zjn_ok, zbl_0, zbl_1, zu_eq, zu_a, zu_j, if_pos, if_neg, ge_iff_le, gt_iff_lt, ne_eq, Int.cast_ofNat_Int, Int.add_zero, Int.zero_add, Int.reduceAdd, Int.reduceSub, Int.reduceMul, Int.reduceNeg, gf_6, pf_6, vc_6]; omega) (by simp (disch := omega) only [if_true, if_false, not_true_eq_false, not_false_eq_true, zcall_ok, zjn_ok, zbl_0, zbl_1, zu_eq, zu_a, zu_j, if_pos, if_neg, ge_iff_le, gt_iff_lt, ne_eq, Int.cast_ofNat_Int, Int.add_zero, Int.zero_add, Int.reduceAdd, Int.reduceSub, Int.reduceMul, Int.reduceNeg, gf_6, pf_6, vc_6]; omega) (by simp (disch := omega) only [if_true, if_false, not_true_eq_false, not_false_eq_true, zcall_ok, zjn_ok, zbl_0, zbl_1, zu_eq, zu_a, zu_j, if_pos, if_neg, ge_iff_le, gt_iff_lt, ne_eq, Int.cast_ofNat_Int, Int.add_zero, Int.zero_add, Int.reduceAdd, Int.reduceSub, Int.reduceMul, Int.reduceNeg, gf_6, pf_6, vc_6]; omega)]
      simp (disch := omega) only [if_true, if_false, not_true_eq_false, not_false_eq_true, zcall_ok, zjn_ok, zbl_0, zbl_1, zu_eq, zu_a, zu_j, if_pos, if_neg, ge_iff_le, gt_iff_lt, ne_eq, Int.cast_ofNat_Int, Int.add_zero, Int.zero_add, Int.reduceAdd, Int.reduceSub, Int.reduceMul, Int.reduceNeg, gf_6, pf_6, vc_6]
    have e11 : ∃ μ2, fX11_act 129 b t x (zupd μ 113 3 0) = some (0, μ2) ∧ μ2 129 30 = 0 := by
      unfold fX11_act
      by_cases hb : 0 ≤ b ∧ b < μ 113 2
      · refine ⟨zupd (zupd (zupd (zupd μ 113 3 0) 129 30 0) 129 31 (μ 146 b)) 129 32 b, ?_, by simp (disch := omega) only [if_true, if_false, not_true_eq_false, not_false_eq_true, zcall_ok, zjn_ok, zbl_0, zbl_1, zu_eq, zu_a, zu_j, if_pos, if_neg, ge_iff_le, gt_iff_lt, ne_eq, Int.cast_ofNat_Int, Int.add_zero, Int.zero_add, Int.reduceAdd, Int.reduceSub, Int.reduceMul, Int.reduceNeg, gf_6, pf_6, vc_6]⟩
        simp (disch := omega) only [↓(vq_129 hbd), g_129_28 hG, ↓zcall_ok, zcall_ok, ↓zjn_ok, zjn_ok, ↓zbl_0, zbl_0, ↓zbl_1, zbl_1, ↓if_pos, if_pos, ↓if_neg, if_neg, ↓zb_ite, zb_ite, ↓zb_itn, zb_itn, ↓gf_129, gf_129, ↓pf_129, pf_129, ↓vc_129, vc_129, ↓al_146, al_146, ↓as_146, as_146, ↓ln_146, ln_146, if_true, if_false, not_true_eq_false, not_false_eq_true, zu_eq, zu_a, zu_j, ge_iff_le, gt_iff_lt, ne_eq, Int.cast_ofNat_Int, Int.add_zero, Int.zero_add, Int.reduceAdd, Int.reduceSub, Int.reduceMul, Int.reduceNeg, ↓gq_129_0 hG1, ↓gq_129_1 hG1, ↓gq_129_2 hG1, ↓gq_129_3 hG1, ↓gq_129_7 hG1, ↓gq_129_10 hG1, ↓gq_129_11 hG1, ↓gq_129_12 hG1, ↓gq_129_13 hG1, ↓gq_129_19 hG1, ↓gq_129_21 hG1, ↓gq_129_22 hG1, ↓gq_129_23 hG1, ↓gq_129_24 hG1, ↓gq_129_25 hG1, ↓gq_129_26 hG1, ↓gq_129_28 hG1, ↓gq_129_29 hG1, ↓gq_129_33 hG1, ↓gq_129_34 hG1, ↓gq_129_35 hG1, ↓gq_129_36 hG1, g_129_0 hG1, g_129_1 hG1, g_129_2 hG1, g_129_3 hG1, g_129_7 hG1, g_129_10 hG1, g_129_11 hG1, g_129_12 hG1, g_129_13 hG1, g_129_19 hG1, g_129_21 hG1, g_129_22 hG1, g_129_23 hG1, g_129_24 hG1, g_129_25 hG1, g_129_26 hG1, g_129_28 hG1, g_129_29 hG1, g_129_33 hG1, g_129_34 hG1, g_129_35 hG1, g_129_36 hG1]
      · refine ⟨zupd (zupd μ 113 3 0) 129 30 0, ?_, by simp (disch := omega) only [if_true, if_false, not_true_eq_false, not_false_eq_true, zcall_ok, zjn_ok, zbl_0, zbl_1, zu_eq, zu_a, zu_j, if_pos, if_neg, ge_iff_le, gt_iff_lt, ne_eq, Int.cast_ofNat_Int, Int.add_zero, Int.zero_add, Int.reduceAdd, Int.reduceSub, Int.reduceMul, Int.reduceNeg, gf_6, pf_6, vc_6]⟩
        simp (disch := omega) only [↓(vq_129 hbd), ↓zcall_ok, zcall_ok, ↓zjn_ok, zjn_ok, ↓zbl_0, zbl_0, ↓zbl_1, zbl_1, ↓if_pos, if_pos, ↓if_neg, if_neg, ↓zb_ite, zb_ite, ↓zb_itn, zb_itn, ↓gf_129, gf_129, ↓pf_129, pf_129, ↓vc_129, vc_129, ↓al_146, al_146, ↓as_146, as_146, ↓ln_146, ln_146, if_true, if_false, not_true_eq_false, not_false_eq_true, zu_eq, zu_a, zu_j, ge_iff_le, gt_iff_lt, ne_eq, Int.cast_ofNat_Int, Int.add_zero, Int.zero_add, Int.reduceAdd, Int.reduceSub, Int.reduceMul, Int.reduceNeg, ↓gq_129_0 hG1, ↓gq_129_1 hG1, ↓gq_129_2 hG1, ↓gq_129_3 hG1, ↓gq_129_7 hG1, ↓gq_129_10 hG1, ↓gq_129_11 hG1, ↓gq_129_12 hG1, ↓gq_129_13 hG1, ↓gq_129_19 hG1, ↓gq_129_21 hG1, ↓gq_129_22 hG1, ↓gq_129_23 hG1, ↓gq_129_24 hG1, ↓gq_129_25 hG1, ↓gq_129_26 hG1, ↓gq_129_28 hG1, ↓gq_129_29 hG1, ↓gq_129_33 hG1, ↓gq_129_34 hG1, ↓gq_129_35 hG1, ↓gq_129_36 hG1, g_129_0 hG1, g_129_1 hG1, g_129_2 hG1, g_129_3 hG1, g_129_7 hG1, g_129_10 hG1, g_129_11 hG1, g_129_12 hG1, g_129_13 hG1, g_129_19 hG1, g_129_21 hG1, g_129_22 hG1, g_129_23 hG1, g_129_24 hG1, g_129_25 hG1, g_129_26 hG1, g_129_28 hG1, g_129_29 hG1, g_129_33 hG1, g_129_34 hG1, g_129_35 hG1, g_129_36 hG1]
    obtain ⟨μ2, e11, e30⟩ := e11
    obtain ⟨-, ha1⟩ := mX10_act 5 b t x μ hG zagr_refl _ _ e10
    obtain ⟨-, ha2⟩ := mX11_act 129 b t x _ hG1 zagr_refl _ _ e11
    have w2 : μ2 113 2 = μ 113 2 := (zag ha2 tf_113_2).trans (zag ha1 tf_113_2)
    have w3 : μ2 113 3 = 0 := by rw [zag ha2 tf_113_3]; simp (disch := omega) only [if_true, if_false, not_true_eq_false, not_false_eq_true, zcall_ok, zjn_ok, zbl_0, zbl_1, zu_eq, zu_a, zu_j, if_pos, if_neg, ge_iff_le, gt_iff_lt, ne_eq, Int.cast_ofNat_Int, Int.add_zero, Int.zero_add, Int.reduceAdd, Int.reduceSub, Int.reduceMul, Int.reduceNeg, gf_6, pf_6, vc_6]
    refine ⟨_, _, _, e10, e11, ⟨⟨by omega, by omega, ?_, fun k k0 k1 => ?_, fun k k0 k1 => ?_⟩, by omega, by omega, by omega, fun k k0 k1 k2 => ?_⟩, w2⟩
    · rw [w2, zag ha2 tf_129_27, zag ha1 tf_129_27]; exact h2
    · rw [zag ha2 (tg_114 k), zag ha1 (tg_114 k)]; exact h3 k k0 (by omega)
    · rw [zag ha2 (tg_146 k), zag ha1 (tg_146 k), zag ha2 (tg_114 k), zag ha1 (tg_114 k)]; exact h4 k k0 (by omega)
    · omega
