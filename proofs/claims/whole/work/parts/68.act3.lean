/-! act: the class's side -/
def zbd (k a : Int) : Int := if a = 0 then (if k = 0 then 1 else if k = 1 then 20 else if k = 6 then 70 else 0) else if a = 1 then (if k = 0 then 10 else if k = 2 then 30 else if k = 3 then 41 else if k = 7 then 80 else 0) else if a = 2 then (if k = 0 then 11 else if k = 3 then 40 else if k = 5 then 60 else 0) else (if k = 0 then 2 else if k = 4 then 50 else if k = 5 then 61 else if k = 7 then 81 else 0)
theorem zBODIES {μ : zMem} (h : zG0 μ) {k a : Int} (h0 : 0 ≤ k) (h1 : k < 8) (h2 : 0 ≤ a) (h3 : a < 4) : μ 4 (4 * k + a) = zbd k a := by
  have : ∀ n : Nat, n < 8 → ∀ m : Nat, m < 4 → 4 * n + m < (zshp 4).2 ∧ zSV 4 (4 * n + m) = zbd n m := by decide +kernel
  obtain ⟨n, rfl⟩ : ∃ n : Nat, k = n := ⟨k.toNat, by omega⟩
  obtain ⟨m, rfl⟩ : ∃ m : Nat, a = m := ⟨a.toNat, by omega⟩
  have t := this n (by omega) m (by omega)
  have := h.2.2 4 (4 * n + m) (by decide) (by decide) t.1
  rw [← t.2, ← this]
  congr 1
/-- the kind whose body is taken -/
def zres (k a : Int) : Int := if zbd k a ≠ 0 then k else if zbd (zupk k) a ≠ 0 then zupk k else if zbd (zupk (zupk k)) a ≠ 0 then zupk (zupk k) else 0
theorem zres_s {k a : Int} (h0 : 0 ≤ k) (h1 : k < 8) (h2 : 0 ≤ a) (h3 : a < 4) (hb : zbd k a = 0) : 1 ≤ k ∧ zres k a = zres (zupk k) a := by
  rcases znat8 h0 h1 with rfl | rfl | rfl | rfl | rfl | rfl | rfl | rfl <;> rcases znat4 h2 h3 with rfl | rfl | rfl | rfl <;> revert hb <;> decide
theorem zres_h {k a : Int} (hb : ¬ zbd k a = 0) : zres k a = k := if_pos hb
theorem c_from {A K c : Int} {n : Nat} {k a x d r : Int} {u u' : zMem} (h : zHC A K c u) (h0 : 0 ≤ k) (h1 : k < 8) (h2 : 0 ≤ a) (h3 : a < 4) (hd : 0 ≤ d ∧ d < 40)
    (hr : (gX0_own n).2.2 113 (zbd (zres k a) a) (zupk (zres k a)) x (d + 1) u = some (r, u')) : (gX0_own (n + 1)).2.1 113 k a x d u = some (r, u') := by
  have hG := h.1
  rw [show (gX0_own (n + 1)).2.1 = gX0_own_b1 (gX0_own n) from rfl]
  unfold gX0_own_b1
  refine zlp_meas (fun j (f : Int → Int → zMem → zRs) => ∀ (v m : Int), 0 ≤ v → v < 8 → 0 ≤ m → m + zrk v ≤ 7 → zrk v < j → zres k a = zres v a → f v m u = some (r, u')) ?_ ?_ 1000000 k 0 h0 h1 (by omega) (by unfold zrk; omega) (by unfold zrk; omega) rfl
  · intro v m _ _ _ _ q
    have : 0 ≤ zrk v := by unfold zrk; omega
    omega
  · intro j f ih v m v0 v1 m0 m1 q hz
    have h6 : 0 ≤ zrk v := by unfold zrk; omega
    have hbd := zBODIES hG v0 v1 h2 h3
    have hup := zABOVE hG v0 v1
    have h7 : 1 ≤ zrk v := by unfold zrk; omega
    by_cases hb : zbd v a = 0
    · obtain ⟨k1, k2⟩ := zres_s v0 v1 h2 h3 hb
      obtain ⟨u1, u2, u3, u4⟩ := zupk_in v0 v1
      have := ih (zupk v) (m + 1) (u4 k1) u2 (by omega) (by omega) (by omega) (by rw [hz, k2])
      simp (disch := omega) only [↓(zcall_of (s0_isKind v)), zw32_id, hbd, hup, ↓zcall_ok, zcall_ok, ↓zjn_ok, zjn_ok, ↓zbl_0, zbl_0, ↓zbl_1, zbl_1, ↓if_pos, if_pos, ↓if_neg, if_neg, ↓zb_ite, zb_ite, ↓zb_itn, zb_itn, ↓al_3, al_3, ↓al_4, al_4, if_true, if_false, not_true_eq_false, not_false_eq_true, zu_eq, zu_a, zu_j, ge_iff_le, gt_iff_lt, ne_eq, Int.cast_ofNat_Int, Int.add_zero, Int.zero_add, Int.reduceAdd, Int.reduceSub, Int.reduceMul, Int.reduceNeg]
      exact this
    · rw [hz, zres_h hb] at hr
      simp (disch := omega) only [↓(zcall_of (s0_isKind v)), zw32_id, hbd, hup, ↓(vq_113 hr), ↓zcall_ok, zcall_ok, ↓zjn_ok, zjn_ok, ↓zbl_0, zbl_0, ↓zbl_1, zbl_1, ↓if_pos, if_pos, ↓if_neg, if_neg, ↓zb_ite, zb_ite, ↓zb_itn, zb_itn, ↓al_3, al_3, ↓al_4, al_4, if_true, if_false, not_true_eq_false, not_false_eq_true, zu_eq, zu_a, zu_j, ge_iff_le, gt_iff_lt, ne_eq, Int.cast_ofNat_Int, Int.add_zero, Int.zero_add, Int.reduceAdd, Int.reduceSub, Int.reduceMul, Int.reduceNeg]
theorem c_own {A K c : Int} {n : Nat} {a x d r : Int} {u u' : zMem} (h : zHC A K c u) (hr : (gX0_own n).2.1 113 K a x d u = some (r, u')) : (gX0_own (n + 1)).1 113 a x d u = some (r, u') := by
  obtain ⟨h1, h2, h3, h4, -⟩ := h
  rw [show (gX0_own (n + 1)).1 = gX0_own_b0 (gX0_own n) from rfl]
  unfold gX0_own_b0 fX0_kindOf
  simp (disch := omega) only [h2, ↓(zcall_of (s0_has A)), ↓(vq_113 (s0_has A)), h4, hr, ↓zcall_ok, zcall_ok, ↓zjn_ok, zjn_ok, ↓zbl_0, zbl_0, ↓zbl_1, zbl_1, ↓if_pos, if_pos, ↓if_neg, if_neg, ↓zb_ite, zb_ite, ↓zb_itn, zb_itn, ↓gf_113, gf_113, ↓pf_113, pf_113, ↓vc_113, vc_113, ↓al_114, al_114, ↓as_114, as_114, ↓ln_114, ln_114, if_true, if_false, not_true_eq_false, not_false_eq_true, zu_eq, zu_a, zu_j, ge_iff_le, gt_iff_lt, ne_eq, Int.cast_ofNat_Int, Int.add_zero, Int.zero_add, Int.reduceAdd, Int.reduceSub, Int.reduceMul, Int.reduceNeg, ↓gq_113_0 h1, ↓gq_113_1 h1, g_113_0 h1, g_113_1 h1]
theorem c_run {n : Nat} : (gX0_own (n + 1)).2.2 = gX0_own_b2 (gX0_own n) := rfl
theorem zr0 {k : Int} (h0 : 0 ≤ k) (h1 : k < 8) : zres k 0 = if k = 6 then 6 else if k = 0 ∨ k = 4 then 0 else 1 := by
  rcases znat8 h0 h1 with rfl | rfl | rfl | rfl | rfl | rfl | rfl | rfl <;> decide
theorem zr1 {k : Int} (h0 : 0 ≤ k) (h1 : k < 8) : zres k 1 = if k = 7 then 7 else if k = 2 then 2 else if k = 3 ∨ k = 5 then 3 else 0 := by
  rcases znat8 h0 h1 with rfl | rfl | rfl | rfl | rfl | rfl | rfl | rfl <;> decide
theorem zr2 {k : Int} (h0 : 0 ≤ k) (h1 : k < 8) : zres k 2 = if k = 5 then 5 else if k = 3 then 3 else 0 := by
  rcases znat8 h0 h1 with rfl | rfl | rfl | rfl | rfl | rfl | rfl | rfl <;> decide
theorem zr3 {k : Int} (h0 : 0 ≤ k) (h1 : k < 8) : zres k 3 = if k = 4 then 4 else if k = 5 then 5 else if k = 7 then 7 else 0 := by
  rcases znat8 h0 h1 with rfl | rfl | rfl | rfl | rfl | rfl | rfl | rfl <;> decide
theorem c_says {A K : Int} : ∀ (n : Nat), 4 ≤ n → ∀ (k x d c : Int) (u : zMem), 0 ≤ k → k < 8 → 0 ≤ d → d ≤ 35 → zHC A K c u → c ≤ 900 → (gX0_own n).2.1 113 k 0 x d u = some (saV k x A, zfC (saT k) u) := by
  have b1 : ∀ (n : Nat) (k x d c : Int) (u : zMem), k = 0 ∨ k = 4 → 0 ≤ d → d < 40 → zHC A K c u → c ≤ 1000 → (gX0_own (n + 1 + 1)).2.1 113 k 0 x d u = some (zw32 (x + A), znC 1 u) := by
    intro n k x d c u hk d0 d1 h hc
    have hA := (zHC_n (n := 1) h).2.1
    refine c_from h (by omega) (by omega) (by omega) (by omega) ⟨d0, d1⟩ ?_
    rw [zr0 (by omega) (by omega), if_neg (by omega), if_pos hk, c_run, show zbd 0 0 = 1 from rfl]
    unfold gX0_own_b2
    simp (disch := omega) only [↓(vq_113 (s0_note h (n := 1) (by omega))), hA, ↓zcall_ok, zcall_ok, ↓zjn_ok, zjn_ok, ↓zbl_0, zbl_0, ↓zbl_1, zbl_1, ↓if_pos, if_pos, ↓if_neg, if_neg, ↓zb_ite, zb_ite, ↓zb_itn, zb_itn, ↓gf_113, gf_113, ↓pf_113, pf_113, ↓vc_113, vc_113, if_true, if_false, not_true_eq_false, not_false_eq_true, zu_eq, zu_a, zu_j, ge_iff_le, gt_iff_lt, ne_eq, Int.cast_ofNat_Int, Int.add_zero, Int.zero_add, Int.reduceAdd, Int.reduceSub, Int.reduceMul, Int.reduceNeg]
  intro n hn k x d c u k0 k1 d0 d1 h hc
  obtain ⟨m, rfl⟩ : ∃ m, n = m + 1 + 1 + 1 + 1 := ⟨n - 4, by omega⟩
  unfold saV saT
  by_cases h6 : k = 6
  · rw [if_pos h6, if_pos h6]
    have e := b1 m 0 x (d + 1) _ (znC 70 u) (Or.inl rfl) (by omega) (by omega) (zHC_n h) (by omega)
    refine c_from h k0 k1 (by omega) (by omega) ⟨d0, by omega⟩ ?_
    rw [zr0 k0 k1, if_pos h6, c_run, show zbd 6 0 = 70 from rfl, show zupk 6 = 0 from rfl]
    unfold gX0_own_b2
    simp (disch := omega) only [↓(vq_113 (s0_note h (n := 70) (by omega))), ↓(vq_113 e), ↓zcall_ok, zcall_ok, ↓zjn_ok, zjn_ok, ↓zbl_0, zbl_0, ↓zbl_1, zbl_1, ↓if_pos, if_pos, ↓if_neg, if_neg, ↓zb_ite, zb_ite, ↓zb_itn, zb_itn, ↓gf_113, gf_113, ↓pf_113, pf_113, ↓vc_113, vc_113, if_true, if_false, not_true_eq_false, not_false_eq_true, zu_eq, zu_a, zu_j, ge_iff_le, gt_iff_lt, ne_eq, Int.cast_ofNat_Int, Int.add_zero, Int.zero_add, Int.reduceAdd, Int.reduceSub, Int.reduceMul, Int.reduceNeg]
    rfl
  · rw [if_neg h6, if_neg h6]
    by_cases h0 : k = 0 ∨ k = 4
    · rw [if_pos h0, if_pos h0, b1 (m + 1 + 1) k x d c u h0 d0 (by omega) h (by omega)]
      rfl
    · rw [if_neg h0, if_neg h0]
      have e := b1 m 0 x (d + 1) _ (znC 20 u) (Or.inl rfl) (by omega) (by omega) (zHC_n h) (by omega)
      refine c_from h k0 k1 (by omega) (by omega) ⟨d0, by omega⟩ ?_
      rw [zr0 k0 k1, if_neg h6, if_neg h0, c_run, show zbd 1 0 = 20 from rfl, show zupk 1 = 0 from rfl]
      unfold gX0_own_b2
      simp (disch := omega) only [↓(vq_113 (s0_note h (n := 20) (by omega))), ↓(vq_113 e), ↓zcall_ok, zcall_ok, ↓zjn_ok, zjn_ok, ↓zbl_0, zbl_0, ↓zbl_1, zbl_1, ↓if_pos, if_pos, ↓if_neg, if_neg, ↓zb_ite, zb_ite, ↓zb_itn, zb_itn, ↓gf_113, gf_113, ↓pf_113, pf_113, ↓vc_113, vc_113, if_true, if_false, not_true_eq_false, not_false_eq_true, zu_eq, zu_a, zu_j, ge_iff_le, gt_iff_lt, ne_eq, Int.cast_ofNat_Int, Int.add_zero, Int.zero_add, Int.reduceAdd, Int.reduceSub, Int.reduceMul, Int.reduceNeg]
      rfl
theorem c_mends {A K : Int} (hK : 0 ≤ K ∧ K < 8) : ∀ (n : Nat), 8 ≤ n → ∀ (k x d c : Int) (u : zMem), 0 ≤ k → k < 8 → 0 ≤ d → d ≤ 30 → zHC A K c u → c ≤ 800 → (gX0_own n).2.1 113 k 2 x d u = some (meV K k x A, zfC (meT K k) u) := by
  have b0 : ∀ (n : Nat) (k x d c : Int) (u : zMem), 0 ≤ k → k < 8 → ¬ k = 5 → ¬ k = 3 → 0 ≤ d → d < 40 → zHC A K c u → c ≤ 1000 → (gX0_own (n + 1 + 1)).2.1 113 k 2 x d u = some (zxor x A, znC 11 u) := by
    intro n k x d c u k0 k1 hk hk2 d0 d1 h hc
    have hA := (zHC_n (n := 11) h).2.1
    refine c_from h k0 k1 (by omega) (by omega) ⟨d0, d1⟩ ?_
    rw [zr2 k0 k1, if_neg hk, if_neg hk2, c_run, show zbd 0 2 = 11 from rfl]
    unfold gX0_own_b2
    simp (disch := omega) only [↓(vq_113 (s0_note h (n := 11) (by omega))), hA, ↓zcall_ok, zcall_ok, ↓zjn_ok, zjn_ok, ↓zbl_0, zbl_0, ↓zbl_1, zbl_1, ↓if_pos, if_pos, ↓if_neg, if_neg, ↓zb_ite, zb_ite, ↓zb_itn, zb_itn, ↓gf_113, gf_113, ↓pf_113, pf_113, ↓vc_113, vc_113, if_true, if_false, not_true_eq_false, not_false_eq_true, zu_eq, zu_a, zu_j, ge_iff_le, gt_iff_lt, ne_eq, Int.cast_ofNat_Int, Int.add_zero, Int.zero_add, Int.reduceAdd, Int.reduceSub, Int.reduceMul, Int.reduceNeg]
  have b3 : ∀ (n : Nat) (x d c : Int) (u : zMem), 0 ≤ d → d < 39 → zHC A K c u → c ≤ 900 → (gX0_own (n + 1 + 1 + 1 + 1)).2.1 113 3 2 x d u = some (zw32 (zxor x A * 3), znC 11 (znC 40 u)) := by
    intro n x d c u d0 d1 h hc
    have e := b0 n 1 x (d + 1) _ (znC 40 u) (by omega) (by omega) (by omega) (by omega) (by omega) (by omega) (zHC_n h) (by omega)
    refine c_from h (by omega) (by omega) (by omega) (by omega) ⟨d0, by omega⟩ ?_
    rw [show zres 3 2 = 3 from rfl, c_run, show zbd 3 2 = 40 from rfl, show zupk 3 = 1 from rfl]
    unfold gX0_own_b2
    simp (disch := omega) only [↓(vq_113 (s0_note h (n := 40) (by omega))), ↓(vq_113 e), ↓zcall_ok, zcall_ok, ↓zjn_ok, zjn_ok, ↓zbl_0, zbl_0, ↓zbl_1, zbl_1, ↓if_pos, if_pos, ↓if_neg, if_neg, ↓zb_ite, zb_ite, ↓zb_itn, zb_itn, ↓gf_113, gf_113, ↓pf_113, pf_113, ↓vc_113, vc_113, if_true, if_false, not_true_eq_false, not_false_eq_true, zu_eq, zu_a, zu_j, ge_iff_le, gt_iff_lt, ne_eq, Int.cast_ofNat_Int, Int.add_zero, Int.zero_add, Int.reduceAdd, Int.reduceSub, Int.reduceMul, Int.reduceNeg]
  intro n hn k x d c u k0 k1 d0 d1 h hc
  obtain ⟨m, rfl⟩ : ∃ m, n = m + 1 + 1 + 1 + 1 + 1 + 1 + 1 := ⟨n - 7, by omega⟩
  unfold meV meT
  by_cases h5 : k = 5
  · rw [if_pos h5, if_pos h5]
    have e := b3 (m + 1) x (d + 1) _ (znC 60 u) (by omega) (by omega) (zHC_n h) (by omega)
    have h3 := zHC_n (n := 11) (zHC_n (n := 40) (zHC_n (n := 60) h))
    have s := c_own h3 (c_says (m + 1 + 1 + 1 + 1) (by omega) K 2 (d + 1) _ _ hK.1 hK.2 (by omega) (by omega) h3 (by omega))
    refine c_from h k0 k1 (by omega) (by omega) ⟨d0, by omega⟩ ?_
    rw [zr2 k0 k1, if_pos h5, c_run, show zbd 5 2 = 60 from rfl, show zupk 5 = 3 from rfl]
    unfold gX0_own_b2
    simp (disch := omega) only [↓(vq_113 (s0_note h (n := 60) (by omega))), ↓(vq_113 e), ↓(vq_113 s), ↓zcall_ok, zcall_ok, ↓zjn_ok, zjn_ok, ↓zbl_0, zbl_0, ↓zbl_1, zbl_1, ↓if_pos, if_pos, ↓if_neg, if_neg, ↓zb_ite, zb_ite, ↓zb_itn, zb_itn, ↓gf_113, gf_113, ↓pf_113, pf_113, ↓vc_113, vc_113, if_true, if_false, not_true_eq_false, not_false_eq_true, zu_eq, zu_a, zu_j, ge_iff_le, gt_iff_lt, ne_eq, Int.cast_ofNat_Int, Int.add_zero, Int.zero_add, Int.reduceAdd, Int.reduceSub, Int.reduceMul, Int.reduceNeg]
    rw [zfC_app]
    rfl
  · rw [if_neg h5, if_neg h5]
    by_cases h3 : k = 3
    · rw [if_pos h3, if_pos h3, h3, b3 (m + 1 + 1 + 1) x d c u d0 (by omega) h (by omega)]
      rfl
    · rw [if_neg h3, if_neg h3, b0 (m + 1 + 1 + 1 + 1 + 1) k x d c u k0 k1 h5 h3 d0 (by omega) h (by omega)]
      rfl
