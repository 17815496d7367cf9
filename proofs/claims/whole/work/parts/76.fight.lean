/-! ===== fight ===== -/
abbrev zFt (f g : Int → Int) (a b : Int) : Prop := (0 ≤ f a ∧ 0 ≤ g a ∧ 0 ≤ f b ∧ 0 ≤ g b) ∧ ¬ (f a < f b ↔ g a < g b)
set_option maxHeartbeats 400000 in
theorem s1_isFight {μ : zMem} {p q : Int} (hp : 0 ≤ p ∧ p < 10) (hq : 0 ≤ q ∧ q < 10) {f g : Int → Int} (hf : ∀ x, fX6_placeOf (zbP p) x μ = some (f x, μ)) (hg : ∀ x, fX6_placeOf (zbP q) x μ = some (g x, μ)) (a b : Int) : fX1_isFight (zbP p) (zbP q) a b μ = some (zb (zFt f g a b), μ) := by
  unfold fX1_isFight
  by_cases c1 : 0 ≤ f a
  · by_cases c2 : 0 ≤ g a
    · by_cases c3 : 0 ≤ f b
      · by_cases c4 : 0 ≤ g b
        · by_cases c5 : f a < f b
          · by_cases c6 : g a < g b
            · rw [zb_f (fun h => h.2 ⟨fun _ => c6, fun _ => c5⟩)]
              simp (disch := omega) only [↓(vcP_of hp.1 hp.2 (hf a)), ↓(vcP_of hq.1 hq.2 (hg a)), ↓(vcP_of hp.1 hp.2 (hf b)), ↓(vcP_of hq.1 hq.2 (hg b)), ↓zcall_ok, zcall_ok, ↓zjn_ok, zjn_ok, ↓zbl_0, zbl_0, ↓zbl_1, zbl_1, ↓if_pos, if_pos, ↓if_neg, if_neg, ↓zb_ite, zb_ite, ↓zb_itn, zb_itn, ↓gf_6, gf_6, ↓pf_6, pf_6, ↓vc_6, vc_6, if_true, if_false, not_true_eq_false, not_false_eq_true, zu_eq, zu_a, zu_j, ge_iff_le, gt_iff_lt, ne_eq, Int.cast_ofNat_Int, Int.add_zero, Int.zero_add, Int.reduceAdd, Int.reduceSub, Int.reduceMul, Int.reduceNeg]
            · rw [zb_t ⟨⟨c1, c2, c3, c4⟩, fun h => c6 (h.1 c5)⟩]
              simp (disch := omega) only [↓(vcP_of hp.1 hp.2 (hf a)), ↓(vcP_of hq.1 hq.2 (hg a)), ↓(vcP_of hp.1 hp.2 (hf b)), ↓(vcP_of hq.1 hq.2 (hg b)), ↓zcall_ok, zcall_ok, ↓zjn_ok, zjn_ok, ↓zbl_0, zbl_0, ↓zbl_1, zbl_1, ↓if_pos, if_pos, ↓if_neg, if_neg, ↓zb_ite, zb_ite, ↓zb_itn, zb_itn, ↓gf_6, gf_6, ↓pf_6, pf_6, ↓vc_6, vc_6, if_true, if_false, not_true_eq_false, not_false_eq_true, zu_eq, zu_a, zu_j, ge_iff_le, gt_iff_lt, ne_eq, Int.cast_ofNat_Int, Int.add_zero, Int.zero_add, Int.reduceAdd, Int.reduceSub, Int.reduceMul, Int.reduceNeg]
          · by_cases c6 : g a < g b
            · rw [zb_t ⟨⟨c1, c2, c3, c4⟩, fun h => c5 (h.2 c6)⟩]
              simp (disch := omega) only [↓(vcP_of hp.1 hp.2 (hf a)), ↓(vcP_of hq.1 hq.2 (hg a)), ↓(vcP_of hp.1 hp.2 (hf b)), ↓(vcP_of hq.1 hq.2 (hg b)), ↓zcall_ok, zcall_ok, ↓zjn_ok, zjn_ok, ↓zbl_0, zbl_0, ↓zbl_1, zbl_1, ↓if_pos, if_pos, ↓if_neg, if_neg, ↓zb_ite, zb_ite, ↓zb_itn, zb_itn, ↓gf_6, gf_6, ↓pf_6, pf_6, ↓vc_6, vc_6, if_true, if_false, not_true_eq_false, not_false_eq_true, zu_eq, zu_a, zu_j, ge_iff_le, gt_iff_lt, ne_eq, Int.cast_ofNat_Int, Int.add_zero, Int.zero_add, Int.reduceAdd, Int.reduceSub, Int.reduceMul, Int.reduceNeg]
            · rw [zb_f (fun h => h.2 ⟨fun z => absurd z c5, fun z => absurd z c6⟩)]
              simp (disch := omega) only [↓(vcP_of hp.1 hp.2 (hf a)), ↓(vcP_of hq.1 hq.2 (hg a)), ↓(vcP_of hp.1 hp.2 (hf b)), ↓(vcP_of hq.1 hq.2 (hg b)), ↓zcall_ok, zcall_ok, ↓zjn_ok, zjn_ok, ↓zbl_0, zbl_0, ↓zbl_1, zbl_1, ↓if_pos, if_pos, ↓if_neg, if_neg, ↓zb_ite, zb_ite, ↓zb_itn, zb_itn, ↓gf_6, gf_6, ↓pf_6, pf_6, ↓vc_6, vc_6, if_true, if_false, not_true_eq_false, not_false_eq_true, zu_eq, zu_a, zu_j, ge_iff_le, gt_iff_lt, ne_eq, Int.cast_ofNat_Int, Int.add_zero, Int.zero_add, Int.reduceAdd, Int.reduceSub, Int.reduceMul, Int.reduceNeg]
        · rw [zb_f (fun h => c4 h.1.2.2.2)]
          simp (disch := omega) only [↓(vcP_of hp.1 hp.2 (hf a)), ↓(vcP_of hq.1 hq.2 (hg a)), ↓(vcP_of hp.1 hp.2 (hf b)), ↓(vcP_of hq.1 hq.2 (hg b)), ↓zcall_ok, zcall_ok, ↓zjn_ok, zjn_ok, ↓zbl_0, zbl_0, ↓zbl_1, zbl_1, ↓if_pos, if_pos, ↓if_neg, if_neg, ↓zb_ite, zb_ite, ↓zb_itn, zb_itn, ↓gf_6, gf_6, ↓pf_6, pf_6, ↓vc_6, vc_6, if_true, if_false, not_true_eq_false, not_false_eq_true, zu_eq, zu_a, zu_j, ge_iff_le, gt_iff_lt, ne_eq, Int.cast_ofNat_Int, Int.add_zero, Int.zero_add, Int.reduceAdd, Int.reduceSub, Int.reduceMul, Int.reduceNeg]
      · rw [zb_f (fun h => c3 h.1.2.2.1)]
        simp (disch := omega) only [↓(vcP_of hp.1 hp.2 (hf a)), ↓(vcP_of hq.1 hq.2 (hg a)), ↓(vcP_of hp.1 hp.2 (hf b)), ↓(vcP_of hq.1 hq.2 (hg b)), ↓zcall_ok, zcall_ok, ↓zjn_ok, zjn_ok, ↓zbl_0, zbl_0, ↓zbl_1, zbl_1, ↓if_pos, if_pos, ↓if_neg, if_neg, ↓zb_ite, zb_ite, ↓zb_itn, zb_itn, ↓gf_6, gf_6, ↓pf_6, pf_6, ↓vc_6, vc_6, if_true, if_false, not_true_eq_false, not_false_eq_true, zu_eq, zu_a, zu_j, ge_iff_le, gt_iff_lt, ne_eq, Int.cast_ofNat_Int, Int.add_zero, Int.zero_add, Int.reduceAdd, Int.reduceSub, Int.reduceMul, Int.reduceNeg]
    · rw [zb_f (fun h => c2 h.1.2.1)]
      simp (disch := omega) only [↓(vcP_of hp.1 hp.2 (hf a)), ↓(vcP_of hq.1 hq.2 (hg a)), ↓(vcP_of hp.1 hp.2 (hf b)), ↓(vcP_of hq.1 hq.2 (hg b)), ↓zcall_ok, zcall_ok, ↓zjn_ok, zjn_ok, ↓zbl_0, zbl_0, ↓zbl_1, zbl_1, ↓if_pos, if_pos, ↓if_neg, if_neg, ↓zb_ite, zb_ite, ↓zb_itn, zb_itn, ↓gf_6, gf_6, ↓pf_6, pf_6, ↓vc_6, vc_6, if_true, if_false, not_true_eq_false, not_false_eq_true, zu_eq, zu_a, zu_j, ge_iff_le, gt_iff_lt, ne_eq, Int.cast_ofNat_Int, Int.add_zero, Int.zero_add, Int.reduceAdd, Int.reduceSub, Int.reduceMul, Int.reduceNeg]
  · rw [zb_f (fun h => c1 h.1.1)]
    simp (disch := omega) only [↓(vcP_of hp.1 hp.2 (hf a)), ↓(vcP_of hq.1 hq.2 (hg a)), ↓(vcP_of hp.1 hp.2 (hf b)), ↓(vcP_of hq.1 hq.2 (hg b)), ↓zcall_ok, zcall_ok, ↓zjn_ok, zjn_ok, ↓zbl_0, zbl_0, ↓zbl_1, zbl_1, ↓if_pos, if_pos, ↓if_neg, if_neg, ↓zb_ite, zb_ite, ↓zb_itn, zb_itn, ↓gf_6, gf_6, ↓pf_6, pf_6, ↓vc_6, vc_6, if_true, if_false, not_true_eq_false, not_false_eq_true, zu_eq, zu_a, zu_j, ge_iff_le, gt_iff_lt, ne_eq, Int.cast_ofNat_Int, Int.add_zero, Int.zero_add, Int.reduceAdd, Int.reduceSub, Int.reduceMul, Int.reduceNeg]
/-- sums, and the value at the first 1 -/
def zcn (h : Nat → Int) : Nat → Int
  | 0 => 0
  | n + 1 => zcn h n + h n
def zfs (h v : Nat → Int) : Nat → Int
  | 0 => -2
  | n + 1 => if zcn h n = 0 then (if h n = 1 then v n else -2) else zfs h v n
def zct (h : Nat → Nat → Int) (N : Nat) : Nat → Int
  | 0 => 0
  | a + 1 => zct h N a + zcn (h a) (N - 1 - a)
def zpfi (h v : Nat → Nat → Int) (N : Nat) : Nat → Int
  | 0 => -2
  | a + 1 => if zct h N a = 0 then zfs (h a) (v a) (N - 1 - a) else zpfi h v N a
set_option maxHeartbeats 400000 in
theorem zcn_S {h : Nat → Int} {n : Nat} : zcn h (n + 1) = zcn h n + h n := rfl
set_option maxHeartbeats 400000 in
theorem zfs_S {h v : Nat → Int} {n : Nat} : zfs h v (n + 1) = if zcn h n = 0 then (if h n = 1 then v n else -2) else zfs h v n := rfl
set_option maxHeartbeats 400000 in
theorem zct_S {h : Nat → Nat → Int} {N a : Nat} : zct h N (a + 1) = zct h N a + zcn (h a) (N - 1 - a) := rfl
set_option maxHeartbeats 400000 in
theorem zpfi_S {h v : Nat → Nat → Int} {N a : Nat} : zpfi h v N (a + 1) = if zct h N a = 0 then zfs (h a) (v a) (N - 1 - a) else zpfi h v N a := rfl
set_option maxHeartbeats 400000 in
theorem zcn_in {h : Nat → Int} (hh : ∀ n, h n = 0 ∨ h n = 1) : ∀ n : Nat, 0 ≤ zcn h n ∧ zcn h n ≤ n
  | 0 => ⟨Int.le_refl _, Int.le_refl _⟩
  | n + 1 => by
    have h1 := zcn_in hh n
    have h2 := hh n
    rw [zcn_S]
    omega
set_option maxHeartbeats 400000 in
theorem zct_in {h : Nat → Nat → Int} {N : Nat} (hN : N ≤ 16) (hh : ∀ a n, h a n = 0 ∨ h a n = 1) : ∀ a : Nat, 0 ≤ zct h N a ∧ zct h N a ≤ 16 * a
  | 0 => ⟨Int.le_refl _, Int.le_refl _⟩
  | a + 1 => by
    have h1 := zct_in hN hh a
    have h2 := zcn_in (hh a) (N - 1 - a)
    rw [zct_S]
    omega
set_option maxHeartbeats 400000 in
theorem zfs_0 {h v : Nat → Int} (hh : ∀ n, h n = 0 ∨ h n = 1) : ∀ n : Nat, zcn h n = 0 → zfs h v n = -2
  | 0, _ => rfl
  | n + 1, e => by
    have h1 := zcn_in hh n
    have h2 := hh n
    rw [zcn_S] at e
    rw [zfs_S, if_pos (by omega), if_neg (by omega)]
set_option maxHeartbeats 400000 in
theorem zfs_on {h v : Nat → Int} (hh : ∀ n, h n = 0 ∨ h n = 1) {n : Nat} (h0 : zcn h n = 0) (h1 : h n = 1) : ∀ m : Nat, 0 < zcn h (n + 1 + m) ∧ zfs h v (n + 1 + m) = v n
  | 0 => by
    rw [Nat.add_zero, zfs_S, zcn_S, if_pos h0, if_pos h1]
    exact ⟨by omega, rfl⟩
  | m + 1 => by
    have ih := zfs_on (v := v) hh h0 h1 m
    have h2 := hh (n + 1 + m)
    rw [← Nat.add_assoc, zfs_S, zcn_S, if_neg (by omega)]
    exact ⟨by omega, ih.2⟩
set_option maxHeartbeats 400000 in
theorem zpfi_0 {h v : Nat → Nat → Int} {N : Nat} (hN : N ≤ 16) (hh : ∀ a n, h a n = 0 ∨ h a n = 1) : ∀ a : Nat, zct h N a = 0 → zpfi h v N a = -2
  | 0, _ => rfl
  | a + 1, e => by
    have h1 := zct_in hN hh a
    have h2 := zcn_in (hh a) (N - 1 - a)
    rw [zct_S] at e
    rw [zpfi_S, if_pos (by omega)]
    exact zfs_0 (hh a) _ (by omega)
set_option maxHeartbeats 400000 in
theorem zpfi_on {h v : Nat → Nat → Int} {N a : Nat} (hN : N ≤ 16) (hh : ∀ a n, h a n = 0 ∨ h a n = 1) (h0 : zct h N a ≠ 0) : ∀ m : Nat, zct h N (a + m) ≠ 0 ∧ zpfi h v N (a + m) = zpfi h v N a
  | 0 => ⟨h0, rfl⟩
  | m + 1 => by
    have ih := zpfi_on (v := v) hN hh h0 m
    have h1 := zct_in hN hh (a + m)
    have h2 := zcn_in (hh (a + m)) (N - 1 - (a + m))
    rw [← Nat.add_assoc, zpfi_S, zct_S, if_neg ih.1]
    exact ⟨by omega, ih.2⟩
set_option maxHeartbeats 400000 in
theorem s1_fightsOf {μ : zMem} (hG : zG0 μ) {P Q : Int} {N : Nat} (hN : N ≤ 16) (hM : μ 6 1 = N) {h : Nat → Nat → Int} (hh : ∀ a n, h a n = 0 ∨ h a n = 1) (hi : ∀ a n : Nat, fX1_isFight P Q a ((a : Int) + 1 + n) μ = some (h a n, μ)) : fX1_fightsOf 34 P Q μ = some (zct h N N, μ) := by
  rw [eX1_fightsOf]
  unfold lX1_fightsOf_2
  have es : fX5_size 6 μ = some ((N : Int), μ) := by rw [s5_size, hM]
  refine zlA (zct h N) rfl N (by omega) (fun k a ha => ?_) (fun k => ?_)
  · have hup := zupn (n := a) (by omega)
    have hct := zct_in hN hh a
    have key : lX1_fightsOf_1 34 P Q a k (zct h N a) ((a + 1 : Nat) : Int) μ = k (zct h N (a + 1)) ((a + 1 : Nat) : Int) μ := by
      unfold lX1_fightsOf_1
      refine zle2 (fun n => zct h N a + zcn (h a) n) (fun n => (a : Int) + 1 + n) (fun _ => μ) (by simp [zcn]) (by simp) rfl (N - 1 - a) (by omega) (fun k2 n hn => ?_) (fun k2 => ?_)
      · have hcn := zcn_in (hh a) n
        have hv := hi a n
        have hup2 : zw32 ((a : Int) + 1 + n + 1) = (a : Int) + 1 + ((n + 1 : Nat) : Int) := by rw [zw32_id (by omega) (by omega)]; omega
        rcases hh a n with e | e
        · rw [e] at hv
          simp (disch := omega) only [↓(vq_6 es), ↓(zcall_of hv), hup2, zcn_S, e, Int.add_zero, ↓zcall_ok, zcall_ok, ↓zjn_ok, zjn_ok, ↓zbl_0, zbl_0, ↓zbl_1, zbl_1, ↓if_pos, if_pos, ↓if_neg, if_neg, ↓zb_ite, zb_ite, ↓zb_itn, zb_itn, ↓gf_6, gf_6, ↓pf_6, pf_6, ↓vc_6, vc_6, ↓gf_34, gf_34, ↓pf_34, pf_34, ↓vc_34, vc_34, if_true, if_false, not_true_eq_false, not_false_eq_true, zu_eq, zu_a, zu_j, ge_iff_le, gt_iff_lt, ne_eq, Int.cast_ofNat_Int, Int.add_zero, Int.zero_add, Int.reduceAdd, Int.reduceSub, Int.reduceMul, Int.reduceNeg, ↓gq_6_0 hG, ↓gq_34_0 hG, ↓gq_34_1 hG, ↓gq_34_2 hG, g_6_0 hG, g_34_0 hG, g_34_1 hG, g_34_2 hG]
        · rw [e] at hv
          have h5 : zw32 (zct h N a + zcn (h a) n + 1) = zct h N a + (zcn (h a) n + 1) := by rw [zw32_id (by omega) (by omega)]; omega
          simp (disch := omega) only [↓(vq_6 es), ↓(zcall_of hv), hup2, zcn_S, e, h5, ↓zcall_ok, zcall_ok, ↓zjn_ok, zjn_ok, ↓zbl_0, zbl_0, ↓zbl_1, zbl_1, ↓if_pos, if_pos, ↓if_neg, if_neg, ↓zb_ite, zb_ite, ↓zb_itn, zb_itn, ↓gf_6, gf_6, ↓pf_6, pf_6, ↓vc_6, vc_6, ↓gf_34, gf_34, ↓pf_34, pf_34, ↓vc_34, vc_34, if_true, if_false, not_true_eq_false, not_false_eq_true, zu_eq, zu_a, zu_j, ge_iff_le, gt_iff_lt, ne_eq, Int.cast_ofNat_Int, Int.add_zero, Int.zero_add, Int.reduceAdd, Int.reduceSub, Int.reduceMul, Int.reduceNeg, ↓gq_6_0 hG, ↓gq_34_0 hG, ↓gq_34_1 hG, ↓gq_34_2 hG, g_6_0 hG, g_34_0 hG, g_34_1 hG, g_34_2 hG]
      · have hx : (a : Int) + 1 + ((N - 1 - a : Nat) : Int) = N := by omega
        rw [hx]
        simp (disch := omega) only [↓(vq_6 es), hup, zct_S, ↓zcall_ok, zcall_ok, ↓zjn_ok, zjn_ok, ↓zbl_0, zbl_0, ↓zbl_1, zbl_1, ↓if_pos, if_pos, ↓if_neg, if_neg, ↓zb_ite, zb_ite, ↓zb_itn, zb_itn, ↓gf_6, gf_6, ↓pf_6, pf_6, ↓vc_6, vc_6, ↓gf_34, gf_34, ↓pf_34, pf_34, ↓vc_34, vc_34, if_true, if_false, not_true_eq_false, not_false_eq_true, zu_eq, zu_a, zu_j, ge_iff_le, gt_iff_lt, ne_eq, Int.cast_ofNat_Int, Int.add_zero, Int.zero_add, Int.reduceAdd, Int.reduceSub, Int.reduceMul, Int.reduceNeg, ↓gq_6_0 hG, ↓gq_34_0 hG, ↓gq_34_1 hG, ↓gq_34_2 hG, g_6_0 hG, g_34_0 hG, g_34_1 hG, g_34_2 hG]
    simp (disch := omega) only [↓(vq_6 es), hup, key, ↓zcall_ok, zcall_ok, ↓zjn_ok, zjn_ok, ↓zbl_0, zbl_0, ↓zbl_1, zbl_1, ↓if_pos, if_pos, ↓if_neg, if_neg, ↓zb_ite, zb_ite, ↓zb_itn, zb_itn, ↓gf_6, gf_6, ↓pf_6, pf_6, ↓vc_6, vc_6, ↓gf_34, gf_34, ↓pf_34, pf_34, ↓vc_34, vc_34, if_true, if_false, not_true_eq_false, not_false_eq_true, zu_eq, zu_a, zu_j, ge_iff_le, gt_iff_lt, ne_eq, Int.cast_ofNat_Int, Int.add_zero, Int.zero_add, Int.reduceAdd, Int.reduceSub, Int.reduceMul, Int.reduceNeg, ↓gq_6_0 hG, ↓gq_34_0 hG, ↓gq_34_1 hG, ↓gq_34_2 hG, g_6_0 hG, g_34_0 hG, g_34_1 hG, g_34_2 hG]
  · simp (disch := omega) only [↓(vq_6 es), ↓zcall_ok, zcall_ok, ↓zjn_ok, zjn_ok, ↓zbl_0, zbl_0, ↓zbl_1, zbl_1, ↓if_pos, if_pos, ↓if_neg, if_neg, ↓zb_ite, zb_ite, ↓zb_itn, zb_itn, ↓gf_6, gf_6, ↓pf_6, pf_6, ↓vc_6, vc_6, ↓gf_34, gf_34, ↓pf_34, pf_34, ↓vc_34, vc_34, if_true, if_false, not_true_eq_false, not_false_eq_true, zu_eq, zu_a, zu_j, ge_iff_le, gt_iff_lt, ne_eq, Int.cast_ofNat_Int, Int.add_zero, Int.zero_add, Int.reduceAdd, Int.reduceSub, Int.reduceMul, Int.reduceNeg, ↓gq_6_0 hG, ↓gq_34_0 hG, ↓gq_34_1 hG, ↓gq_34_2 hG, g_6_0 hG, g_34_0 hG, g_34_1 hG, g_34_2 hG]
set_option maxHeartbeats 400000 in
theorem s1_ff1 {μ : zMem} (hG : zG0 μ) {P Q : Int} {N a m : Nat} (hm : a + 1 + m = N) (hN : N ≤ 16) (hM : μ 6 1 = N) {h v : Nat → Int} (hh : ∀ n, h n = 0 ∨ h n = 1) (hi : ∀ n : Nat, fX1_isFight P Q a ((a : Int) + 1 + n) μ = some (h n, μ))
    (hv : ∀ n : Nat, v n = zw32 (zw32 (100 * (a : Int)) + ((a : Int) + 1 + n))) {R : zRs} (k : Int → zMem → zRs) (hk : zcn h m = 0 → k ((a + 1 : Nat) : Int) μ = R) (hr : ∀ n : Nat, n < m → zcn h n = 0 → h n = 1 → some (v n, μ) = R) :
    lX1_firstFight_1 34 P Q a k ((a : Int) + 1 + (0 : Nat)) μ = R := by
  have es : fX5_size 6 μ = some ((N : Int), μ) := by rw [s5_size, hM]
  have hup := zupn (n := a) (by omega)
  unfold lX1_firstFight_1
  refine zlp_meas (fun k2 (f2 : Int → zMem → zRs) => ∀ n d : Nat, n + d = m → d < k2 → zcn h n = 0 → f2 ((a : Int) + 1 + n) μ = R) ?_ ?_ 1000000 0 m (Nat.zero_add _) (by omega) rfl
  · intro n d _ h2 _
    omega
  · intro k2 f2 ih2 n d g1 g2 g3
    by_cases hd : d = 0
    · have hn : n = m := by omega
      have hx : (a : Int) + 1 + (n : Int) = N := by omega
      rw [hn] at g3
      have h5 := hk g3
      rw [hx, ← h5]
      clear ih2 hk hr hi hh hv g3 h5
      simp (disch := omega) only [↓(vq_6 es), hup, ↓zcall_ok, zcall_ok, ↓zjn_ok, zjn_ok, ↓zbl_0, zbl_0, ↓zbl_1, zbl_1, ↓if_pos, if_pos, ↓if_neg, if_neg, ↓zb_ite, zb_ite, ↓zb_itn, zb_itn, ↓gf_6, gf_6, ↓pf_6, pf_6, ↓vc_6, vc_6, ↓gf_34, gf_34, ↓pf_34, pf_34, ↓vc_34, vc_34, if_true, if_false, not_true_eq_false, not_false_eq_true, zu_eq, zu_a, zu_j, ge_iff_le, gt_iff_lt, ne_eq, Int.cast_ofNat_Int, Int.add_zero, Int.zero_add, Int.reduceAdd, Int.reduceSub, Int.reduceMul, Int.reduceNeg, ↓gq_6_0 hG, ↓gq_34_0 hG, ↓gq_34_1 hG, ↓gq_34_2 hG, g_6_0 hG, g_34_0 hG, g_34_1 hG, g_34_2 hG]
    · have e1 := hi n
      have hup2 : zw32 ((a : Int) + 1 + n + 1) = (a : Int) + 1 + ((n + 1 : Nat) : Int) := by rw [zw32_id (by omega) (by omega)]; omega
      have hnm : (a : Int) + 1 + n < N := by omega
      rcases hh n with e | e
      · rw [e] at e1
        have h6 : zcn h (n + 1) = 0 := by rw [zcn_S, g3, e]; rfl
        have h5 := ih2 (n + 1) (d - 1) (by omega) (by omega) h6
        rw [← h5]
        clear ih2 hk hr hi hh hv g3 h5 h6 g2
        simp (disch := omega) only [↓(vq_6 es), ↓(zcall_of e1), hup2, ↓zcall_ok, zcall_ok, ↓zjn_ok, zjn_ok, ↓zbl_0, zbl_0, ↓zbl_1, zbl_1, ↓if_pos, if_pos, ↓if_neg, if_neg, ↓zb_ite, zb_ite, ↓zb_itn, zb_itn, ↓gf_6, gf_6, ↓pf_6, pf_6, ↓vc_6, vc_6, ↓gf_34, gf_34, ↓pf_34, pf_34, ↓vc_34, vc_34, if_true, if_false, not_true_eq_false, not_false_eq_true, zu_eq, zu_a, zu_j, ge_iff_le, gt_iff_lt, ne_eq, Int.cast_ofNat_Int, Int.add_zero, Int.zero_add, Int.reduceAdd, Int.reduceSub, Int.reduceMul, Int.reduceNeg, ↓gq_6_0 hG, ↓gq_34_0 hG, ↓gq_34_1 hG, ↓gq_34_2 hG, g_6_0 hG, g_34_0 hG, g_34_1 hG, g_34_2 hG]
      · rw [e] at e1
        have h5 := hr n (by omega) g3 e
        rw [hv] at h5
        rw [← h5]
        clear ih2 hk hr hi hh hv g3 h5 g2
        simp (disch := omega) only [↓(vq_6 es), ↓(zcall_of e1), ↓zcall_ok, zcall_ok, ↓zjn_ok, zjn_ok, ↓zbl_0, zbl_0, ↓zbl_1, zbl_1, ↓if_pos, if_pos, ↓if_neg, if_neg, ↓zb_ite, zb_ite, ↓zb_itn, zb_itn, ↓gf_6, gf_6, ↓pf_6, pf_6, ↓vc_6, vc_6, ↓gf_34, gf_34, ↓pf_34, pf_34, ↓vc_34, vc_34, if_true, if_false, not_true_eq_false, not_false_eq_true, zu_eq, zu_a, zu_j, ge_iff_le, gt_iff_lt, ne_eq, Int.cast_ofNat_Int, Int.add_zero, Int.zero_add, Int.reduceAdd, Int.reduceSub, Int.reduceMul, Int.reduceNeg, ↓gq_6_0 hG, ↓gq_34_0 hG, ↓gq_34_1 hG, ↓gq_34_2 hG, g_6_0 hG, g_34_0 hG, g_34_1 hG, g_34_2 hG]
set_option maxHeartbeats 400000 in
theorem s1_firstFight {μ : zMem} (hG : zG0 μ) {P Q : Int} {N : Nat} (hN : N ≤ 16) (hM : μ 6 1 = N) {h v : Nat → Nat → Int} (hh : ∀ a n, h a n = 0 ∨ h a n = 1) (hi : ∀ a n : Nat, fX1_isFight P Q a ((a : Int) + 1 + n) μ = some (h a n, μ))
    (hv : ∀ a n : Nat, v a n = zw32 (zw32 (100 * (a : Int)) + ((a : Int) + 1 + n))) : fX1_firstFight 34 P Q μ = some (zpfi h v N N, μ) := by
  rw [eX1_firstFight]
  unfold lX1_firstFight_2
  have es : fX5_size 6 μ = some ((N : Int), μ) := by rw [s5_size, hM]
  refine zlp_meas (fun k (f : Int → zMem → zRs) => ∀ a d : Nat, a + d = N → d < k → zct h N a = 0 → f (a : Int) μ = some (zpfi h v N N, μ)) ?_ ?_ 1000000 0 N (Nat.zero_add _) (by omega) rfl
  · intro a d _ h2 _
    omega
  · intro k f ih a d h1 h2 h3
    by_cases hd : d = 0
    · have ha : a = N := by omega
      rw [ha] at h3 ⊢
      have h4 := zpfi_0 (v := v) hN hh N h3
      rw [h4]
      clear ih hi hh hv h3 h4
      simp (disch := omega) only [↓(vq_6 es), ↓zcall_ok, zcall_ok, ↓zjn_ok, zjn_ok, ↓zbl_0, zbl_0, ↓zbl_1, zbl_1, ↓if_pos, if_pos, ↓if_neg, if_neg, ↓zb_ite, zb_ite, ↓zb_itn, zb_itn, ↓gf_6, gf_6, ↓pf_6, pf_6, ↓vc_6, vc_6, ↓gf_34, gf_34, ↓pf_34, pf_34, ↓vc_34, vc_34, if_true, if_false, not_true_eq_false, not_false_eq_true, zu_eq, zu_a, zu_j, ge_iff_le, gt_iff_lt, ne_eq, Int.cast_ofNat_Int, Int.add_zero, Int.zero_add, Int.reduceAdd, Int.reduceSub, Int.reduceMul, Int.reduceNeg, ↓gq_6_0 hG, ↓gq_34_0 hG, ↓gq_34_1 hG, ↓gq_34_2 hG, g_6_0 hG, g_34_0 hG, g_34_1 hG, g_34_2 hG]
    · have hup := zupn (n := a) (by omega)
      have haN : (a : Int) < N := by omega
      have key : lX1_firstFight_1 34 P Q a f ((a : Int) + 1 + (0 : Nat)) μ = some (zpfi h v N N, μ) := by
        refine s1_ff1 hG (m := d - 1) (by omega) hN hM (hh a) (hi a) (hv a) f (fun z => ?_) (fun n hn z1 z2 => ?_)
        · refine ih (a + 1) (d - 1) (by omega) (by omega) ?_
          rw [zct_S, h3, show N - 1 - a = d - 1 by omega, z]
          rfl
        · have h5 := zfs_on (v := v a) (hh a) z1 z2 (d - 1 - (n + 1))
          rw [show n + 1 + (d - 1 - (n + 1)) = N - 1 - a by omega] at h5
          have h6 : zct h N (a + 1) ≠ 0 := by
            rw [zct_S, h3, Int.zero_add]
            exact fun q => absurd h5.1 (by rw [q]; decide)
          have h7 := zpfi_on (v := v) hN hh h6 (d - 1)
          rw [show a + 1 + (d - 1) = N by omega] at h7
          have h8 : zpfi h v N (a + 1) = v a n := by rw [zpfi_S, if_pos h3]; exact h5.2
          rw [h7.2, h8]
      have e0 : ((a + 1 : Nat) : Int) = (a : Int) + 1 + (0 : Nat) := by omega
      rw [← e0] at key
      clear ih hi hh hv h3 h2
      simp (disch := omega) only [↓(vq_6 es), hup, key, ↓zcall_ok, zcall_ok, ↓zjn_ok, zjn_ok, ↓zbl_0, zbl_0, ↓zbl_1, zbl_1, ↓if_pos, if_pos, ↓if_neg, if_neg, ↓zb_ite, zb_ite, ↓zb_itn, zb_itn, ↓gf_6, gf_6, ↓pf_6, pf_6, ↓vc_6, vc_6, ↓gf_34, gf_34, ↓pf_34, pf_34, ↓vc_34, vc_34, if_true, if_false, not_true_eq_false, not_false_eq_true, zu_eq, zu_a, zu_j, ge_iff_le, gt_iff_lt, ne_eq, Int.cast_ofNat_Int, Int.add_zero, Int.zero_add, Int.reduceAdd, Int.reduceSub, Int.reduceMul, Int.reduceNeg, ↓gq_6_0 hG, ↓gq_34_0 hG, ↓gq_34_1 hG, ↓gq_34_2 hG, g_6_0 hG, g_34_0 hG, g_34_1 hG, g_34_2 hG]
set_option maxHeartbeats 400000 in
theorem s11_fight_2 {μ : zMem} (hG : zG0 μ) {pq c : Int} {N : Nat} (hN : N ≤ 16) (hM : μ 129 6 = N) {f g : Int → Int} {h v : Nat → Nat → Int} (hv : ∀ a n : Nat, v a n = zw32 (zw32 (100 * (a : Int)) + ((a : Int) + 1 + n)))
    (hf : ∀ x, fX11_placeOf 129 (zw32 (Int.tdiv pq 10)) x μ = some (f x, μ)) (hg : ∀ x, fX11_placeOf 129 (Int.tmod pq 10) x μ = some (g x, μ)) (kf : ∀ x, fX11_has 129 (zw32 (Int.tdiv pq 10)) x μ = some (zb (0 ≤ f x), μ)) (kg : ∀ x, fX11_has 129 (Int.tmod pq 10) x μ = some (zb (0 ≤ g x), μ))
    (hF : ∀ a n : Nat, h a n = zb (zFt f g a ((a : Int) + 1 + n))) : lX11_fight_2 129 pq c 0 (-2) 0 μ = some (if c = 0 then zct h N N else zpfi h v N N, μ) := by
  have hh : ∀ a n, h a n = 0 ∨ h a n = 1 := fun a n => by rw [hF]; exact zb01
  unfold lX11_fight_2
  refine zle3 (zct h N) (zpfi h v N) (fun a => (a : Int)) (fun _ => μ) rfl rfl rfl rfl N (by omega) (fun k a ha => ?_) (fun k => ?_)
  · have hup := zupn (n := a) (by omega)
    have hct := zct_in hN hh a
    have hp0 := zpfi_0 (v := v) hN hh a
    have key : lX11_fight_1 129 pq a k (zct h N a) (zpfi h v N a) ((a + 1 : Nat) : Int) μ = k (zct h N (a + 1)) (zpfi h v N (a + 1)) ((a + 1 : Nat) : Int) μ := by
      unfold lX11_fight_1
      refine zle3 (fun n => zct h N a + zcn (h a) n) (fun n => if zct h N a = 0 then zfs (h a) (v a) n else zpfi h v N a) (fun n => (a : Int) + 1 + n) (fun _ => μ) (by simp [zcn]) ?_ (by simp) rfl (N - 1 - a) (by omega) (fun k2 n hn => ?_) (fun k2 => ?_)
      · show (if zct h N a = 0 then zfs (h a) (v a) 0 else zpfi h v N a) = zpfi h v N a
        by_cases e : zct h N a = 0
        · rw [if_pos e, hp0 e]; rfl
        · rw [if_neg e]
      · have hcn := zcn_in (hh a) n
        have hup2 : zw32 ((a : Int) + 1 + n + 1) = (a : Int) + 1 + ((n + 1 : Nat) : Int) := by rw [zw32_id (by omega) (by omega)]; omega
        have hva := hv a n
        have h5 : zw32 (zct h N a + zcn (h a) n + 1) = zct h N a + (zcn (h a) n + 1) := by rw [zw32_id (by omega) (by omega)]; omega
        have h6 : zw32 (zct h N a + zcn (h a) n) = zct h N a + zcn (h a) n := zw32_id (by omega) (by omega)
        have hFa := hF a n
        obtain ⟨b, hb⟩ : ∃ b : Int, b = (a : Int) + 1 + n := ⟨_, rfl⟩
        rw [← hb] at hup2 hva hFa
        simp only [← hb]
        have hfs : zfs (h a) (v a) (n + 1) = if zcn (h a) n = 0 then (if h a n = 1 then v a n else -2) else zfs (h a) (v a) n := zfs_S
        have hcs : zcn (h a) (n + 1) = zcn (h a) n + h a n := zcn_S
        have hz0 := zfs_0 (v := v a) (hh a) n
        by_cases hFt : zFt f g a b
        · rw [zb_t hFt] at hFa
          rw [hfs, hcs, hFa]
          obtain ⟨⟨c1, c2, c3, c4⟩, c5⟩ := hFt
          by_cases e1 : zct h N a = 0
          · by_cases e2 : zcn (h a) n = 0
            · by_cases c6 : f a < f b
              · have c7 : ¬ g a < g b := fun z => c5 ⟨fun _ => z, fun _ => c6⟩
                simp (disch := omega) only [hM, ↓(vq_129 (kf a)), ↓(vq_129 (kf b)), ↓(vq_129 (kg a)), ↓(vq_129 (kg b)), ↓(vq_129 (hf a)), ↓(vq_129 (hf b)), ↓(vq_129 (hg a)), ↓(vq_129 (hg b)), hup2, h5, hva, ↓zcall_ok, zcall_ok, ↓zjn_ok, zjn_ok, ↓zbl_0, zbl_0, ↓zbl_1, zbl_1, ↓if_pos, if_pos, ↓if_neg, if_neg, ↓zb_ite, zb_ite, ↓zb_itn, zb_itn, ↓gf_129, gf_129, ↓pf_129, pf_129, ↓vc_129, vc_129, if_true, if_false, not_true_eq_false, not_false_eq_true, zu_eq, zu_a, zu_j, ge_iff_le, gt_iff_lt, ne_eq, Int.cast_ofNat_Int, Int.add_zero, Int.zero_add, Int.reduceAdd, Int.reduceSub, Int.reduceMul, Int.reduceNeg, ↓gq_129_0 hG, ↓gq_129_1 hG, ↓gq_129_2 hG, ↓gq_129_3 hG, ↓gq_129_7 hG, ↓gq_129_10 hG, ↓gq_129_11 hG, ↓gq_129_12 hG, ↓gq_129_13 hG, ↓gq_129_19 hG, ↓gq_129_21 hG, ↓gq_129_22 hG, ↓gq_129_23 hG, ↓gq_129_24 hG, ↓gq_129_25 hG, ↓gq_129_26 hG, ↓gq_129_28 hG, ↓gq_129_29 hG, ↓gq_129_33 hG, ↓gq_129_34 hG, ↓gq_129_35 hG, ↓gq_129_36 hG, g_129_0 hG, g_129_1 hG, g_129_2 hG, g_129_3 hG, g_129_7 hG, g_129_10 hG, g_129_11 hG, g_129_12 hG, g_129_13 hG, g_129_19 hG, g_129_21 hG, g_129_22 hG, g_129_23 hG, g_129_24 hG, g_129_25 hG, g_129_26 hG, g_129_28 hG, g_129_29 hG, g_129_33 hG, g_129_34 hG, g_129_35 hG, g_129_36 hG]
              · have c7 : g a < g b := Classical.byContradiction fun z => c5 ⟨fun y => absurd y c6, fun y => absurd y z⟩
                simp (disch := omega) only [hM, ↓(vq_129 (kf a)), ↓(vq_129 (kf b)), ↓(vq_129 (kg a)), ↓(vq_129 (kg b)), ↓(vq_129 (hf a)), ↓(vq_129 (hf b)), ↓(vq_129 (hg a)), ↓(vq_129 (hg b)), hup2, h5, hva, ↓zcall_ok, zcall_ok, ↓zjn_ok, zjn_ok, ↓zbl_0, zbl_0, ↓zbl_1, zbl_1, ↓if_pos, if_pos, ↓if_neg, if_neg, ↓zb_ite, zb_ite, ↓zb_itn, zb_itn, ↓gf_129, gf_129, ↓pf_129, pf_129, ↓vc_129, vc_129, if_true, if_false, not_true_eq_false, not_false_eq_true, zu_eq, zu_a, zu_j, ge_iff_le, gt_iff_lt, ne_eq, Int.cast_ofNat_Int, Int.add_zero, Int.zero_add, Int.reduceAdd, Int.reduceSub, Int.reduceMul, Int.reduceNeg, ↓gq_129_0 hG, ↓gq_129_1 hG, ↓gq_129_2 hG, ↓gq_129_3 hG, ↓gq_129_7 hG, ↓gq_129_10 hG, ↓gq_129_11 hG, ↓gq_129_12 hG, ↓gq_129_13 hG, ↓gq_129_19 hG, ↓gq_129_21 hG, ↓gq_129_22 hG, ↓gq_129_23 hG, ↓gq_129_24 hG, ↓gq_129_25 hG, ↓gq_129_26 hG, ↓gq_129_28 hG, ↓gq_129_29 hG, ↓gq_129_33 hG, ↓gq_129_34 hG, ↓gq_129_35 hG, ↓gq_129_36 hG, g_129_0 hG, g_129_1 hG, g_129_2 hG, g_129_3 hG, g_129_7 hG, g_129_10 hG, g_129_11 hG, g_129_12 hG, g_129_13 hG, g_129_19 hG, g_129_21 hG, g_129_22 hG, g_129_23 hG, g_129_24 hG, g_129_25 hG, g_129_26 hG, g_129_28 hG, g_129_29 hG, g_129_33 hG, g_129_34 hG, g_129_35 hG, g_129_36 hG]
            · by_cases c6 : f a < f b
              · have c7 : ¬ g a < g b := fun z => c5 ⟨fun _ => z, fun _ => c6⟩
                simp (disch := omega) only [hM, ↓(vq_129 (kf a)), ↓(vq_129 (kf b)), ↓(vq_129 (kg a)), ↓(vq_129 (kg b)), ↓(vq_129 (hf a)), ↓(vq_129 (hf b)), ↓(vq_129 (hg a)), ↓(vq_129 (hg b)), hup2, h5, hva, ↓zcall_ok, zcall_ok, ↓zjn_ok, zjn_ok, ↓zbl_0, zbl_0, ↓zbl_1, zbl_1, ↓if_pos, if_pos, ↓if_neg, if_neg, ↓zb_ite, zb_ite, ↓zb_itn, zb_itn, ↓gf_129, gf_129, ↓pf_129, pf_129, ↓vc_129, vc_129, if_true, if_false, not_true_eq_false, not_false_eq_true, zu_eq, zu_a, zu_j, ge_iff_le, gt_iff_lt, ne_eq, Int.cast_ofNat_Int, Int.add_zero, Int.zero_add, Int.reduceAdd, Int.reduceSub, Int.reduceMul, Int.reduceNeg, ↓gq_129_0 hG, ↓gq_129_1 hG, ↓gq_129_2 hG, ↓gq_129_3 hG, ↓gq_129_7 hG, ↓gq_129_10 hG, ↓gq_129_11 hG, ↓gq_129_12 hG, ↓gq_129_13 hG, ↓gq_129_19 hG, ↓gq_129_21 hG, ↓gq_129_22 hG, ↓gq_129_23 hG, ↓gq_129_24 hG, ↓gq_129_25 hG, ↓gq_129_26 hG, ↓gq_129_28 hG, ↓gq_129_29 hG, ↓gq_129_33 hG, ↓gq_129_34 hG, ↓gq_129_35 hG, ↓gq_129_36 hG, g_129_0 hG, g_129_1 hG, g_129_2 hG, g_129_3 hG, g_129_7 hG, g_129_10 hG, g_129_11 hG, g_129_12 hG, g_129_13 hG, g_129_19 hG, g_129_21 hG, g_129_22 hG, g_129_23 hG, g_129_24 hG, g_129_25 hG, g_129_26 hG, g_129_28 hG, g_129_29 hG, g_129_33 hG, g_129_34 hG, g_129_35 hG, g_129_36 hG]
              · have c7 : g a < g b := Classical.byContradiction fun z => c5 ⟨fun y => absurd y c6, fun y => absurd y z⟩
                simp (disch := omega) only [hM, ↓(vq_129 (kf a)), ↓(vq_129 (kf b)), ↓(vq_129 (kg a)), ↓(vq_129 (kg b)), ↓(vq_129 (hf a)), ↓(vq_129 (hf b)), ↓(vq_129 (hg a)), ↓(vq_129 (hg b)), hup2, h5, hva, ↓zcall_ok, zcall_ok, ↓zjn_ok, zjn_ok, ↓zbl_0, zbl_0, ↓zbl_1, zbl_1, ↓if_pos, if_pos, ↓if_neg, if_neg, ↓zb_ite, zb_ite, ↓zb_itn, zb_itn, ↓gf_129, gf_129, ↓pf_129, pf_129, ↓vc_129, vc_129, if_true, if_false, not_true_eq_false, not_false_eq_true, zu_eq, zu_a, zu_j, ge_iff_le, gt_iff_lt, ne_eq, Int.cast_ofNat_Int, Int.add_zero, Int.zero_add, Int.reduceAdd, Int.reduceSub, Int.reduceMul, Int.reduceNeg, ↓gq_129_0 hG, ↓gq_129_1 hG, ↓gq_129_2 hG, ↓gq_129_3 hG, ↓gq_129_7 hG, ↓gq_129_10 hG, ↓gq_129_11 hG, ↓gq_129_12 hG, ↓gq_129_13 hG, ↓gq_129_19 hG, ↓gq_129_21 hG, ↓gq_129_22 hG, ↓gq_129_23 hG, ↓gq_129_24 hG, ↓gq_129_25 hG, ↓gq_129_26 hG, ↓gq_129_28 hG, ↓gq_129_29 hG, ↓gq_129_33 hG, ↓gq_129_34 hG, ↓gq_129_35 hG, ↓gq_129_36 hG, g_129_0 hG, g_129_1 hG, g_129_2 hG, g_129_3 hG, g_129_7 hG, g_129_10 hG, g_129_11 hG, g_129_12 hG, g_129_13 hG, g_129_19 hG, g_129_21 hG, g_129_22 hG, g_129_23 hG, g_129_24 hG, g_129_25 hG, g_129_26 hG, g_129_28 hG, g_129_29 hG, g_129_33 hG, g_129_34 hG, g_129_35 hG, g_129_36 hG]
          · by_cases c6 : f a < f b
            · have c7 : ¬ g a < g b := fun z => c5 ⟨fun _ => z, fun _ => c6⟩
              simp (disch := omega) only [hM, ↓(vq_129 (kf a)), ↓(vq_129 (kf b)), ↓(vq_129 (kg a)), ↓(vq_129 (kg b)), ↓(vq_129 (hf a)), ↓(vq_129 (hf b)), ↓(vq_129 (hg a)), ↓(vq_129 (hg b)), hup2, h5, hva, ↓zcall_ok, zcall_ok, ↓zjn_ok, zjn_ok, ↓zbl_0, zbl_0, ↓zbl_1, zbl_1, ↓if_pos, if_pos, ↓if_neg, if_neg, ↓zb_ite, zb_ite, ↓zb_itn, zb_itn, ↓gf_129, gf_129, ↓pf_129, pf_129, ↓vc_129, vc_129, if_true, if_false, not_true_eq_false, not_false_eq_true, zu_eq, zu_a, zu_j, ge_iff_le, gt_iff_lt, ne_eq, Int.cast_ofNat_Int, Int.add_zero, Int.zero_add, Int.reduceAdd, Int.reduceSub, Int.reduceMul, Int.reduceNeg, ↓gq_129_0 hG, ↓gq_129_1 hG, ↓gq_129_2 hG, ↓gq_129_3 hG, ↓gq_129_7 hG, ↓gq_129_10 hG, ↓gq_129_11 hG, ↓gq_129_12 hG, ↓gq_129_13 hG, ↓gq_129_19 hG, ↓gq_129_21 hG, ↓gq_129_22 hG, ↓gq_129_23 hG, ↓gq_129_24 hG, ↓gq_129_25 hG, ↓gq_129_26 hG, ↓gq_129_28 hG, ↓gq_129_29 hG, ↓gq_129_33 hG, ↓gq_129_34 hG, ↓gq_129_35 hG, ↓gq_129_36 hG, g_129_0 hG, g_129_1 hG, g_129_2 hG, g_129_3 hG, g_129_7 hG, g_129_10 hG, g_129_11 hG, g_129_12 hG, g_129_13 hG, g_129_19 hG, g_129_21 hG, g_129_22 hG, g_129_23 hG, g_129_24 hG, g_129_25 hG, g_129_26 hG, g_129_28 hG, g_129_29 hG, g_129_33 hG, g_129_34 hG, g_129_35 hG, g_129_36 hG]
            · have c7 : g a < g b := Classical.byContradiction fun z => c5 ⟨fun y => absurd y c6, fun y => absurd y z⟩
              simp (disch := omega) only [hM, ↓(vq_129 (kf a)), ↓(vq_129 (kf b)), ↓(vq_129 (kg a)), ↓(vq_129 (kg b)), ↓(vq_129 (hf a)), ↓(vq_129 (hf b)), ↓(vq_129 (hg a)), ↓(vq_129 (hg b)), hup2, h5, hva, ↓zcall_ok, zcall_ok, ↓zjn_ok, zjn_ok, ↓zbl_0, zbl_0, ↓zbl_1, zbl_1, ↓if_pos, if_pos, ↓if_neg, if_neg, ↓zb_ite, zb_ite, ↓zb_itn, zb_itn, ↓gf_129, gf_129, ↓pf_129, pf_129, ↓vc_129, vc_129, if_true, if_false, not_true_eq_false, not_false_eq_true, zu_eq, zu_a, zu_j, ge_iff_le, gt_iff_lt, ne_eq, Int.cast_ofNat_Int, Int.add_zero, Int.zero_add, Int.reduceAdd, Int.reduceSub, Int.reduceMul, Int.reduceNeg, ↓gq_129_0 hG, ↓gq_129_1 hG, ↓gq_129_2 hG, ↓gq_129_3 hG, ↓gq_129_7 hG, ↓gq_129_10 hG, ↓gq_129_11 hG, ↓gq_129_12 hG, ↓gq_129_13 hG, ↓gq_129_19 hG, ↓gq_129_21 hG, ↓gq_129_22 hG, ↓gq_129_23 hG, ↓gq_129_24 hG, ↓gq_129_25 hG, ↓gq_129_26 hG, ↓gq_129_28 hG, ↓gq_129_29 hG, ↓gq_129_33 hG, ↓gq_129_34 hG, ↓gq_129_35 hG, ↓gq_129_36 hG, g_129_0 hG, g_129_1 hG, g_129_2 hG, g_129_3 hG, g_129_7 hG, g_129_10 hG, g_129_11 hG, g_129_12 hG, g_129_13 hG, g_129_19 hG, g_129_21 hG, g_129_22 hG, g_129_23 hG, g_129_24 hG, g_129_25 hG, g_129_26 hG, g_129_28 hG, g_129_29 hG, g_129_33 hG, g_129_34 hG, g_129_35 hG, g_129_36 hG]
        · rw [zb_f hFt] at hFa
          have hq : (if zct h N a = 0 then zfs (h a) (v a) (n + 1) else zpfi h v N a) = if zct h N a = 0 then zfs (h a) (v a) n else zpfi h v N a := by
            rw [hfs, hFa, if_neg (show ¬ (0 : Int) = 1 by decide)]
            by_cases e2 : zcn (h a) n = 0
            · rw [if_pos e2, hz0 e2]
            · rw [if_neg e2]
          rw [hq, hcs, hFa]
          generalize (if zct h N a = 0 then zfs (h a) (v a) n else zpfi h v N a) = pr
          by_cases c1 : 0 ≤ f a
          · by_cases c3 : 0 ≤ f b
            · by_cases c2 : 0 ≤ g a
              · by_cases c4 : 0 ≤ g b
                · by_cases c6 : f a < f b
                  · have c7 : g a < g b := Classical.byContradiction fun z => hFt ⟨⟨c1, c2, c3, c4⟩, fun y => z (y.1 c6)⟩
                    simp (disch := omega) only [hM, ↓(vq_129 (kf a)), ↓(vq_129 (kf b)), ↓(vq_129 (kg a)), ↓(vq_129 (kg b)), ↓(vq_129 (hf a)), ↓(vq_129 (hf b)), ↓(vq_129 (hg a)), ↓(vq_129 (hg b)), hup2, h6, Int.add_zero, ↓zcall_ok, zcall_ok, ↓zjn_ok, zjn_ok, ↓zbl_0, zbl_0, ↓zbl_1, zbl_1, ↓if_pos, if_pos, ↓if_neg, if_neg, ↓zb_ite, zb_ite, ↓zb_itn, zb_itn, ↓gf_129, gf_129, ↓pf_129, pf_129, ↓vc_129, vc_129, if_true, if_false, not_true_eq_false, not_false_eq_true, zu_eq, zu_a, zu_j, ge_iff_le, gt_iff_lt, ne_eq, Int.cast_ofNat_Int, Int.add_zero, Int.zero_add, Int.reduceAdd, Int.reduceSub, Int.reduceMul, Int.reduceNeg, ↓gq_129_0 hG, ↓gq_129_1 hG, ↓gq_129_2 hG, ↓gq_129_3 hG, ↓gq_129_7 hG, ↓gq_129_10 hG, ↓gq_129_11 hG, ↓gq_129_12 hG, ↓gq_129_13 hG, ↓gq_129_19 hG, ↓gq_129_21 hG, ↓gq_129_22 hG, ↓gq_129_23 hG, ↓gq_129_24 hG, ↓gq_129_25 hG, ↓gq_129_26 hG, ↓gq_129_28 hG, ↓gq_129_29 hG, ↓gq_129_33 hG, ↓gq_129_34 hG, ↓gq_129_35 hG, ↓gq_129_36 hG, g_129_0 hG, g_129_1 hG, g_129_2 hG, g_129_3 hG, g_129_7 hG, g_129_10 hG, g_129_11 hG, g_129_12 hG, g_129_13 hG, g_129_19 hG, g_129_21 hG, g_129_22 hG, g_129_23 hG, g_129_24 hG, g_129_25 hG, g_129_26 hG, g_129_28 hG, g_129_29 hG, g_129_33 hG, g_129_34 hG, g_129_35 hG, g_129_36 hG]
                  · have c7 : ¬ g a < g b := fun z => hFt ⟨⟨c1, c2, c3, c4⟩, fun y => c6 (y.2 z)⟩
                    simp (disch := omega) only [hM, ↓(vq_129 (kf a)), ↓(vq_129 (kf b)), ↓(vq_129 (kg a)), ↓(vq_129 (kg b)), ↓(vq_129 (hf a)), ↓(vq_129 (hf b)), ↓(vq_129 (hg a)), ↓(vq_129 (hg b)), hup2, h6, Int.add_zero, ↓zcall_ok, zcall_ok, ↓zjn_ok, zjn_ok, ↓zbl_0, zbl_0, ↓zbl_1, zbl_1, ↓if_pos, if_pos, ↓if_neg, if_neg, ↓zb_ite, zb_ite, ↓zb_itn, zb_itn, ↓gf_129, gf_129, ↓pf_129, pf_129, ↓vc_129, vc_129, if_true, if_false, not_true_eq_false, not_false_eq_true, zu_eq, zu_a, zu_j, ge_iff_le, gt_iff_lt, ne_eq, Int.cast_ofNat_Int, Int.add_zero, Int.zero_add, Int.reduceAdd, Int.reduceSub, Int.reduceMul, Int.reduceNeg, ↓gq_129_0 hG, ↓gq_129_1 hG, ↓gq_129_2 hG, ↓gq_129_3 hG, ↓gq_129_7 hG, ↓gq_129_10 hG, ↓gq_129_11 hG, ↓gq_129_12 hG, ↓gq_129_13 hG, ↓gq_129_19 hG, ↓gq_129_21 hG, ↓gq_129_22 hG, ↓gq_129_23 hG, ↓gq_129_24 hG, ↓gq_129_25 hG, ↓gq_129_26 hG, ↓gq_129_28 hG, ↓gq_129_29 hG, ↓gq_129_33 hG, ↓gq_129_34 hG, ↓gq_129_35 hG, ↓gq_129_36 hG, g_129_0 hG, g_129_1 hG, g_129_2 hG, g_129_3 hG, g_129_7 hG, g_129_10 hG, g_129_11 hG, g_129_12 hG, g_129_13 hG, g_129_19 hG, g_129_21 hG, g_129_22 hG, g_129_23 hG, g_129_24 hG, g_129_25 hG, g_129_26 hG, g_129_28 hG, g_129_29 hG, g_129_33 hG, g_129_34 hG, g_129_35 hG, g_129_36 hG]
                · simp (disch := omega) only [hM, ↓(vq_129 (kf a)), ↓(vq_129 (kf b)), ↓(vq_129 (kg a)), ↓(vq_129 (kg b)), hup2, h6, Int.add_zero, ↓zcall_ok, zcall_ok, ↓zjn_ok, zjn_ok, ↓zbl_0, zbl_0, ↓zbl_1, zbl_1, ↓if_pos, if_pos, ↓if_neg, if_neg, ↓zb_ite, zb_ite, ↓zb_itn, zb_itn, ↓gf_129, gf_129, ↓pf_129, pf_129, ↓vc_129, vc_129, if_true, if_false, not_true_eq_false, not_false_eq_true, zu_eq, zu_a, zu_j, ge_iff_le, gt_iff_lt, ne_eq, Int.cast_ofNat_Int, Int.add_zero, Int.zero_add, Int.reduceAdd, Int.reduceSub, Int.reduceMul, Int.reduceNeg, ↓gq_129_0 hG, ↓gq_129_1 hG, ↓gq_129_2 hG, ↓gq_129_3 hG, ↓gq_129_7 hG, ↓gq_129_10 hG, ↓gq_129_11 hG, ↓gq_129_12 hG, ↓gq_129_13 hG, ↓gq_129_19 hG, ↓gq_129_21 hG, ↓gq_129_22 hG, ↓gq_129_23 hG, ↓gq_129_24 hG, ↓gq_129_25 hG, ↓gq_129_26 hG, ↓gq_129_28 hG, ↓gq_129_29 hG, ↓gq_129_33 hG, ↓gq_129_34 hG, ↓gq_129_35 hG, ↓gq_129_36 hG, g_129_0 hG, g_129_1 hG, g_129_2 hG, g_129_3 hG, g_129_7 hG, g_129_10 hG, g_129_11 hG, g_129_12 hG, g_129_13 hG, g_129_19 hG, g_129_21 hG, g_129_22 hG, g_129_23 hG, g_129_24 hG, g_129_25 hG, g_129_26 hG, g_129_28 hG, g_129_29 hG, g_129_33 hG, g_129_34 hG, g_129_35 hG, g_129_36 hG]
              · simp (disch := omega) only [hM, ↓(vq_129 (kf a)), ↓(vq_129 (kf b)), ↓(vq_129 (kg a)), ↓(vq_129 (kg b)), hup2, h6, Int.add_zero, ↓zcall_ok, zcall_ok, ↓zjn_ok, zjn_ok, ↓zbl_0, zbl_0, ↓zbl_1, zbl_1, ↓if_pos, if_pos, ↓if_neg, if_neg, ↓zb_ite, zb_ite, ↓zb_itn, zb_itn, ↓gf_129, gf_129, ↓pf_129, pf_129, ↓vc_129, vc_129, if_true, if_false, not_true_eq_false, not_false_eq_true, zu_eq, zu_a, zu_j, ge_iff_le, gt_iff_lt, ne_eq, Int.cast_ofNat_Int, Int.add_zero, Int.zero_add, Int.reduceAdd, Int.reduceSub, Int.reduceMul, Int.reduceNeg, ↓gq_129_0 hG, ↓gq_129_1 hG, ↓gq_129_2 hG, ↓gq_129_3 hG, ↓gq_129_7 hG, ↓gq_129_10 hG, ↓gq_129_11 hG, ↓gq_129_12 hG, ↓gq_129_13 hG, ↓gq_129_19 hG, ↓gq_129_21 hG, ↓gq_129_22 hG, ↓gq_129_23 hG, ↓gq_129_24 hG, ↓gq_129_25 hG, ↓gq_129_26 hG, ↓gq_129_28 hG, ↓gq_129_29 hG, ↓gq_129_33 hG, ↓gq_129_34 hG, ↓gq_129_35 hG, ↓gq_129_36 hG, g_129_0 hG, g_129_1 hG, g_129_2 hG, g_129_3 hG, g_129_7 hG, g_129_10 hG, g_129_11 hG, g_129_12 hG, g_129_13 hG, g_129_19 hG, g_129_21 hG, g_129_22 hG, g_129_23 hG, g_129_24 hG, g_129_25 hG, g_129_26 hG, g_129_28 hG, g_129_29 hG, g_129_33 hG, g_129_34 hG, g_129_35 hG, g_129_36 hG]
            · simp (disch := omega) only [hM, ↓(vq_129 (kf a)), ↓(vq_129 (kf b)), ↓(vq_129 (kg a)), ↓(vq_129 (kg b)), hup2, h6, Int.add_zero, ↓zcall_ok, zcall_ok, ↓zjn_ok, zjn_ok, ↓zbl_0, zbl_0, ↓zbl_1, zbl_1, ↓if_pos, if_pos, ↓if_neg, if_neg, ↓zb_ite, zb_ite, ↓zb_itn, zb_itn, ↓gf_129, gf_129, ↓pf_129, pf_129, ↓vc_129, vc_129, if_true, if_false, not_true_eq_false, not_false_eq_true, zu_eq, zu_a, zu_j, ge_iff_le, gt_iff_lt, ne_eq, Int.cast_ofNat_Int, Int.add_zero, Int.zero_add, Int.reduceAdd, Int.reduceSub, Int.reduceMul, Int.reduceNeg, ↓gq_129_0 hG, ↓gq_129_1 hG, ↓gq_129_2 hG, ↓gq_129_3 hG, ↓gq_129_7 hG, ↓gq_129_10 hG, ↓gq_129_11 hG, ↓gq_129_12 hG, ↓gq_129_13 hG, ↓gq_129_19 hG, ↓gq_129_21 hG, ↓gq_129_22 hG, ↓gq_129_23 hG, ↓gq_129_24 hG, ↓gq_129_25 hG, ↓gq_129_26 hG, ↓gq_129_28 hG, ↓gq_129_29 hG, ↓gq_129_33 hG, ↓gq_129_34 hG, ↓gq_129_35 hG, ↓gq_129_36 hG, g_129_0 hG, g_129_1 hG, g_129_2 hG, g_129_3 hG, g_129_7 hG, g_129_10 hG, g_129_11 hG, g_129_12 hG, g_129_13 hG, g_129_19 hG, g_129_21 hG, g_129_22 hG, g_129_23 hG, g_129_24 hG, g_129_25 hG, g_129_26 hG, g_129_28 hG, g_129_29 hG, g_129_33 hG, g_129_34 hG, g_129_35 hG, g_129_36 hG]
          · simp (disch := omega) only [hM, ↓(vq_129 (kf a)), ↓(vq_129 (kf b)), ↓(vq_129 (kg a)), ↓(vq_129 (kg b)), hup2, h6, Int.add_zero, ↓zcall_ok, zcall_ok, ↓zjn_ok, zjn_ok, ↓zbl_0, zbl_0, ↓zbl_1, zbl_1, ↓if_pos, if_pos, ↓if_neg, if_neg, ↓zb_ite, zb_ite, ↓zb_itn, zb_itn, ↓gf_129, gf_129, ↓pf_129, pf_129, ↓vc_129, vc_129, if_true, if_false, not_true_eq_false, not_false_eq_true, zu_eq, zu_a, zu_j, ge_iff_le, gt_iff_lt, ne_eq, Int.cast_ofNat_Int, Int.add_zero, Int.zero_add, Int.reduceAdd, Int.reduceSub, Int.reduceMul, Int.reduceNeg, ↓gq_129_0 hG, ↓gq_129_1 hG, ↓gq_129_2 hG, ↓gq_129_3 hG, ↓gq_129_7 hG, ↓gq_129_10 hG, ↓gq_129_11 hG, ↓gq_129_12 hG, ↓gq_129_13 hG, ↓gq_129_19 hG, ↓gq_129_21 hG, ↓gq_129_22 hG, ↓gq_129_23 hG, ↓gq_129_24 hG, ↓gq_129_25 hG, ↓gq_129_26 hG, ↓gq_129_28 hG, ↓gq_129_29 hG, ↓gq_129_33 hG, ↓gq_129_34 hG, ↓gq_129_35 hG, ↓gq_129_36 hG, g_129_0 hG, g_129_1 hG, g_129_2 hG, g_129_3 hG, g_129_7 hG, g_129_10 hG, g_129_11 hG, g_129_12 hG, g_129_13 hG, g_129_19 hG, g_129_21 hG, g_129_22 hG, g_129_23 hG, g_129_24 hG, g_129_25 hG, g_129_26 hG, g_129_28 hG, g_129_29 hG, g_129_33 hG, g_129_34 hG, g_129_35 hG, g_129_36 hG]
      · have hx : (a : Int) + 1 + ((N - 1 - a : Nat) : Int) = N := by omega
        simp only [hx]
        rw [zct_S, zpfi_S]
        simp (disch := omega) only [hM, hup, ↓zcall_ok, zcall_ok, ↓zjn_ok, zjn_ok, ↓zbl_0, zbl_0, ↓zbl_1, zbl_1, ↓if_pos, if_pos, ↓if_neg, if_neg, ↓zb_ite, zb_ite, ↓zb_itn, zb_itn, ↓gf_129, gf_129, ↓pf_129, pf_129, ↓vc_129, vc_129, if_true, if_false, not_true_eq_false, not_false_eq_true, zu_eq, zu_a, zu_j, ge_iff_le, gt_iff_lt, ne_eq, Int.cast_ofNat_Int, Int.add_zero, Int.zero_add, Int.reduceAdd, Int.reduceSub, Int.reduceMul, Int.reduceNeg, ↓gq_129_0 hG, ↓gq_129_1 hG, ↓gq_129_2 hG, ↓gq_129_3 hG, ↓gq_129_7 hG, ↓gq_129_10 hG, ↓gq_129_11 hG, ↓gq_129_12 hG, ↓gq_129_13 hG, ↓gq_129_19 hG, ↓gq_129_21 hG, ↓gq_129_22 hG, ↓gq_129_23 hG, ↓gq_129_24 hG, ↓gq_129_25 hG, ↓gq_129_26 hG, ↓gq_129_28 hG, ↓gq_129_29 hG, ↓gq_129_33 hG, ↓gq_129_34 hG, ↓gq_129_35 hG, ↓gq_129_36 hG, g_129_0 hG, g_129_1 hG, g_129_2 hG, g_129_3 hG, g_129_7 hG, g_129_10 hG, g_129_11 hG, g_129_12 hG, g_129_13 hG, g_129_19 hG, g_129_21 hG, g_129_22 hG, g_129_23 hG, g_129_24 hG, g_129_25 hG, g_129_26 hG, g_129_28 hG, g_129_29 hG, g_129_33 hG, g_129_34 hG, g_129_35 hG, g_129_36 hG]
    simp (disch := omega) only [hM, hup, key, ↓zcall_ok, zcall_ok, ↓zjn_ok, zjn_ok, ↓zbl_0, zbl_0, ↓zbl_1, zbl_1, ↓if_pos, if_pos, ↓if_neg, if_neg, ↓zb_ite, zb_ite, ↓zb_itn, zb_itn, ↓gf_129, gf_129, ↓pf_129, pf_129, ↓vc_129, vc_129, if_true, if_false, not_true_eq_false, not_false_eq_true, zu_eq, zu_a, zu_j, ge_iff_le, gt_iff_lt, ne_eq, Int.cast_ofNat_Int, Int.add_zero, Int.zero_add, Int.reduceAdd, Int.reduceSub, Int.reduceMul, Int.reduceNeg, ↓gq_129_0 hG, ↓gq_129_1 hG, ↓gq_129_2 hG, ↓gq_129_3 hG, ↓gq_129_7 hG, ↓gq_129_10 hG, ↓gq_129_11 hG, ↓gq_129_12 hG, ↓gq_129_13 hG, ↓gq_129_19 hG, ↓gq_129_21 hG, ↓gq_129_22 hG, ↓gq_129_23 hG, ↓gq_129_24 hG, ↓gq_129_25 hG, ↓gq_129_26 hG, ↓gq_129_28 hG, ↓gq_129_29 hG, ↓gq_129_33 hG, ↓gq_129_34 hG, ↓gq_129_35 hG, ↓gq_129_36 hG, g_129_0 hG, g_129_1 hG, g_129_2 hG, g_129_3 hG, g_129_7 hG, g_129_10 hG, g_129_11 hG, g_129_12 hG, g_129_13 hG, g_129_19 hG, g_129_21 hG, g_129_22 hG, g_129_23 hG, g_129_24 hG, g_129_25 hG, g_129_26 hG, g_129_28 hG, g_129_29 hG, g_129_33 hG, g_129_34 hG, g_129_35 hG, g_129_36 hG]
  · by_cases hc : c = 0
    · simp (disch := omega) only [hM, ↓zcall_ok, zcall_ok, ↓zjn_ok, zjn_ok, ↓zbl_0, zbl_0, ↓zbl_1, zbl_1, ↓if_pos, if_pos, ↓if_neg, if_neg, ↓zb_ite, zb_ite, ↓zb_itn, zb_itn, ↓gf_129, gf_129, ↓pf_129, pf_129, ↓vc_129, vc_129, if_true, if_false, not_true_eq_false, not_false_eq_true, zu_eq, zu_a, zu_j, ge_iff_le, gt_iff_lt, ne_eq, Int.cast_ofNat_Int, Int.add_zero, Int.zero_add, Int.reduceAdd, Int.reduceSub, Int.reduceMul, Int.reduceNeg, ↓gq_129_0 hG, ↓gq_129_1 hG, ↓gq_129_2 hG, ↓gq_129_3 hG, ↓gq_129_7 hG, ↓gq_129_10 hG, ↓gq_129_11 hG, ↓gq_129_12 hG, ↓gq_129_13 hG, ↓gq_129_19 hG, ↓gq_129_21 hG, ↓gq_129_22 hG, ↓gq_129_23 hG, ↓gq_129_24 hG, ↓gq_129_25 hG, ↓gq_129_26 hG, ↓gq_129_28 hG, ↓gq_129_29 hG, ↓gq_129_33 hG, ↓gq_129_34 hG, ↓gq_129_35 hG, ↓gq_129_36 hG, g_129_0 hG, g_129_1 hG, g_129_2 hG, g_129_3 hG, g_129_7 hG, g_129_10 hG, g_129_11 hG, g_129_12 hG, g_129_13 hG, g_129_19 hG, g_129_21 hG, g_129_22 hG, g_129_23 hG, g_129_24 hG, g_129_25 hG, g_129_26 hG, g_129_28 hG, g_129_29 hG, g_129_33 hG, g_129_34 hG, g_129_35 hG, g_129_36 hG]
    · simp (disch := omega) only [hM, ↓zcall_ok, zcall_ok, ↓zjn_ok, zjn_ok, ↓zbl_0, zbl_0, ↓zbl_1, zbl_1, ↓if_pos, if_pos, ↓if_neg, if_neg, ↓zb_ite, zb_ite, ↓zb_itn, zb_itn, ↓gf_129, gf_129, ↓pf_129, pf_129, ↓vc_129, vc_129, if_true, if_false, not_true_eq_false, not_false_eq_true, zu_eq, zu_a, zu_j, ge_iff_le, gt_iff_lt, ne_eq, Int.cast_ofNat_Int, Int.add_zero, Int.zero_add, Int.reduceAdd, Int.reduceSub, Int.reduceMul, Int.reduceNeg, ↓gq_129_0 hG, ↓gq_129_1 hG, ↓gq_129_2 hG, ↓gq_129_3 hG, ↓gq_129_7 hG, ↓gq_129_10 hG, ↓gq_129_11 hG, ↓gq_129_12 hG, ↓gq_129_13 hG, ↓gq_129_19 hG, ↓gq_129_21 hG, ↓gq_129_22 hG, ↓gq_129_23 hG, ↓gq_129_24 hG, ↓gq_129_25 hG, ↓gq_129_26 hG, ↓gq_129_28 hG, ↓gq_129_29 hG, ↓gq_129_33 hG, ↓gq_129_34 hG, ↓gq_129_35 hG, ↓gq_129_36 hG, g_129_0 hG, g_129_1 hG, g_129_2 hG, g_129_3 hG, g_129_7 hG, g_129_10 hG, g_129_11 hG, g_129_12 hG, g_129_13 hG, g_129_19 hG, g_129_21 hG, g_129_22 hG, g_129_23 hG, g_129_24 hG, g_129_25 hG, g_129_26 hG, g_129_28 hG, g_129_29 hG, g_129_33 hG, g_129_34 hG, g_129_35 hG, g_129_36 hG]
set_option maxHeartbeats 400000 in
theorem op_fight {μ : zMem} (hG : zG0 μ) (hS : zGS μ) (hP : zGP μ) (pq c : Int) (hx : pq < 2147483648) : ∃ r, fX10_fight 5 pq c μ = some (r, μ) ∧ fX11_fight 129 pq c μ = some (r, μ) := by
  have hPc := hP
  obtain ⟨⟨h0, h1, h2⟩, h3⟩ := hPc
  obtain ⟨s0, s1, s2, -⟩ := hS
  have hn : ¬ (10 : Int) = 0 := by decide
  unfold fX10_fight
  rw [eX11_fight]
  by_cases hx0 : pq < 0
  · refine ⟨-1, ?_, ?_⟩
    · simp (disch := omega) only [↓zcall_ok, zcall_ok, ↓zjn_ok, zjn_ok, ↓zbl_0, zbl_0, ↓zbl_1, zbl_1, ↓if_pos, if_pos, ↓if_neg, if_neg, ↓zb_ite, zb_ite, ↓zb_itn, zb_itn, ↓gf_5, gf_5, ↓pf_5, pf_5, ↓vc_5, vc_5, ↓gf_34, gf_34, ↓pf_34, pf_34, ↓vc_34, vc_34, if_true, if_false, not_true_eq_false, not_false_eq_true, zu_eq, zu_a, zu_j, ge_iff_le, gt_iff_lt, ne_eq, Int.cast_ofNat_Int, Int.add_zero, Int.zero_add, Int.reduceAdd, Int.reduceSub, Int.reduceMul, Int.reduceNeg, ↓gq_5_0 hG, ↓gq_5_1 hG, ↓gq_5_2 hG, ↓gq_5_3 hG, ↓gq_5_4 hG, ↓gq_5_5 hG, ↓gq_5_6 hG, ↓gq_34_0 hG, ↓gq_34_1 hG, ↓gq_34_2 hG, g_5_0 hG, g_5_1 hG, g_5_2 hG, g_5_3 hG, g_5_4 hG, g_5_5 hG, g_5_6 hG, g_34_0 hG, g_34_1 hG, g_34_2 hG]
    · simp (disch := omega) only [↓zcall_ok, zcall_ok, ↓zjn_ok, zjn_ok, ↓zbl_0, zbl_0, ↓zbl_1, zbl_1, ↓if_pos, if_pos, ↓if_neg, if_neg, ↓zb_ite, zb_ite, ↓zb_itn, zb_itn, ↓gf_129, gf_129, ↓pf_129, pf_129, ↓vc_129, vc_129, if_true, if_false, not_true_eq_false, not_false_eq_true, zu_eq, zu_a, zu_j, ge_iff_le, gt_iff_lt, ne_eq, Int.cast_ofNat_Int, Int.add_zero, Int.zero_add, Int.reduceAdd, Int.reduceSub, Int.reduceMul, Int.reduceNeg, ↓gq_129_0 hG, ↓gq_129_1 hG, ↓gq_129_2 hG, ↓gq_129_3 hG, ↓gq_129_7 hG, ↓gq_129_10 hG, ↓gq_129_11 hG, ↓gq_129_12 hG, ↓gq_129_13 hG, ↓gq_129_19 hG, ↓gq_129_21 hG, ↓gq_129_22 hG, ↓gq_129_23 hG, ↓gq_129_24 hG, ↓gq_129_25 hG, ↓gq_129_26 hG, ↓gq_129_28 hG, ↓gq_129_29 hG, ↓gq_129_33 hG, ↓gq_129_34 hG, ↓gq_129_35 hG, ↓gq_129_36 hG, g_129_0 hG, g_129_1 hG, g_129_2 hG, g_129_3 hG, g_129_7 hG, g_129_10 hG, g_129_11 hG, g_129_12 hG, g_129_13 hG, g_129_19 hG, g_129_21 hG, g_129_22 hG, g_129_23 hG, g_129_24 hG, g_129_25 hG, g_129_26 hG, g_129_28 hG, g_129_29 hG, g_129_33 hG, g_129_34 hG, g_129_35 hG, g_129_36 hG]
  obtain ⟨p, hp⟩ : ∃ p, p = zw32 (Int.tdiv pq 10) := ⟨_, rfl⟩
  obtain ⟨q, hq⟩ : ∃ q, q = Int.tmod pq 10 := ⟨_, rfl⟩
  have e1 : ∀ p, fX1_paper 34 p μ = some (if 0 ≤ p ∧ p < μ 34 3 then zbP p else -1, μ) := fun p => s1_paper hG h1 p
  by_cases hpq : p = q
  · refine ⟨-1, ?_, ?_⟩
    · rw [← hp, ← hq]
      simp (disch := omega) only [znz_ok hn, ↓zcall_ok, zcall_ok, ↓zjn_ok, zjn_ok, ↓zbl_0, zbl_0, ↓zbl_1, zbl_1, ↓if_pos, if_pos, ↓if_neg, if_neg, ↓zb_ite, zb_ite, ↓zb_itn, zb_itn, ↓gf_5, gf_5, ↓pf_5, pf_5, ↓vc_5, vc_5, ↓gf_34, gf_34, ↓pf_34, pf_34, ↓vc_34, vc_34, if_true, if_false, not_true_eq_false, not_false_eq_true, zu_eq, zu_a, zu_j, ge_iff_le, gt_iff_lt, ne_eq, Int.cast_ofNat_Int, Int.add_zero, Int.zero_add, Int.reduceAdd, Int.reduceSub, Int.reduceMul, Int.reduceNeg, ↓gq_5_0 hG, ↓gq_5_1 hG, ↓gq_5_2 hG, ↓gq_5_3 hG, ↓gq_5_4 hG, ↓gq_5_5 hG, ↓gq_5_6 hG, ↓gq_34_0 hG, ↓gq_34_1 hG, ↓gq_34_2 hG, g_5_0 hG, g_5_1 hG, g_5_2 hG, g_5_3 hG, g_5_4 hG, g_5_5 hG, g_5_6 hG, g_34_0 hG, g_34_1 hG, g_34_2 hG]
    · by_cases hpp : 0 ≤ p ∧ p < μ 34 3
      · rw [← hp, ← hq]
        simp (disch := omega) only [↓znz_ok hn, znz_ok hn, ↓(vq_129 (s11_isPaper hP p)), ↓(vq_129 (s11_isPaper hP q)), ↓zcall_ok, zcall_ok, ↓zjn_ok, zjn_ok, ↓zbl_0, zbl_0, ↓zbl_1, zbl_1, ↓if_pos, if_pos, ↓if_neg, if_neg, ↓zb_ite, zb_ite, ↓zb_itn, zb_itn, ↓gf_129, gf_129, ↓pf_129, pf_129, ↓vc_129, vc_129, if_true, if_false, not_true_eq_false, not_false_eq_true, zu_eq, zu_a, zu_j, ge_iff_le, gt_iff_lt, ne_eq, Int.cast_ofNat_Int, Int.add_zero, Int.zero_add, Int.reduceAdd, Int.reduceSub, Int.reduceMul, Int.reduceNeg, ↓gq_129_0 hG, ↓gq_129_1 hG, ↓gq_129_2 hG, ↓gq_129_3 hG, ↓gq_129_7 hG, ↓gq_129_10 hG, ↓gq_129_11 hG, ↓gq_129_12 hG, ↓gq_129_13 hG, ↓gq_129_19 hG, ↓gq_129_21 hG, ↓gq_129_22 hG, ↓gq_129_23 hG, ↓gq_129_24 hG, ↓gq_129_25 hG, ↓gq_129_26 hG, ↓gq_129_28 hG, ↓gq_129_29 hG, ↓gq_129_33 hG, ↓gq_129_34 hG, ↓gq_129_35 hG, ↓gq_129_36 hG, g_129_0 hG, g_129_1 hG, g_129_2 hG, g_129_3 hG, g_129_7 hG, g_129_10 hG, g_129_11 hG, g_129_12 hG, g_129_13 hG, g_129_19 hG, g_129_21 hG, g_129_22 hG, g_129_23 hG, g_129_24 hG, g_129_25 hG, g_129_26 hG, g_129_28 hG, g_129_29 hG, g_129_33 hG, g_129_34 hG, g_129_35 hG, g_129_36 hG]
      · rw [← hp, ← hq]
        simp (disch := omega) only [↓znz_ok hn, znz_ok hn, ↓(vq_129 (s11_isPaper hP p)), ↓(vq_129 (s11_isPaper hP q)), ↓zcall_ok, zcall_ok, ↓zjn_ok, zjn_ok, ↓zbl_0, zbl_0, ↓zbl_1, zbl_1, ↓if_pos, if_pos, ↓if_neg, if_neg, ↓zb_ite, zb_ite, ↓zb_itn, zb_itn, ↓gf_129, gf_129, ↓pf_129, pf_129, ↓vc_129, vc_129, if_true, if_false, not_true_eq_false, not_false_eq_true, zu_eq, zu_a, zu_j, ge_iff_le, gt_iff_lt, ne_eq, Int.cast_ofNat_Int, Int.add_zero, Int.zero_add, Int.reduceAdd, Int.reduceSub, Int.reduceMul, Int.reduceNeg, ↓gq_129_0 hG, ↓gq_129_1 hG, ↓gq_129_2 hG, ↓gq_129_3 hG, ↓gq_129_7 hG, ↓gq_129_10 hG, ↓gq_129_11 hG, ↓gq_129_12 hG, ↓gq_129_13 hG, ↓gq_129_19 hG, ↓gq_129_21 hG, ↓gq_129_22 hG, ↓gq_129_23 hG, ↓gq_129_24 hG, ↓gq_129_25 hG, ↓gq_129_26 hG, ↓gq_129_28 hG, ↓gq_129_29 hG, ↓gq_129_33 hG, ↓gq_129_34 hG, ↓gq_129_35 hG, ↓gq_129_36 hG, g_129_0 hG, g_129_1 hG, g_129_2 hG, g_129_3 hG, g_129_7 hG, g_129_10 hG, g_129_11 hG, g_129_12 hG, g_129_13 hG, g_129_19 hG, g_129_21 hG, g_129_22 hG, g_129_23 hG, g_129_24 hG, g_129_25 hG, g_129_26 hG, g_129_28 hG, g_129_29 hG, g_129_33 hG, g_129_34 hG, g_129_35 hG, g_129_36 hG]
  by_cases hc : 0 ≤ c ∧ c ≤ 1
  rotate_left
  · refine ⟨-1, ?_, ?_⟩
    · rw [← hp, ← hq]
      simp (disch := omega) only [↓znz_ok hn, znz_ok hn, ↓(zcall_of (s10_isChoice c)), ↓zcall_ok, zcall_ok, ↓zjn_ok, zjn_ok, ↓zbl_0, zbl_0, ↓zbl_1, zbl_1, ↓if_pos, if_pos, ↓if_neg, if_neg, ↓zb_ite, zb_ite, ↓zb_itn, zb_itn, ↓gf_5, gf_5, ↓pf_5, pf_5, ↓vc_5, vc_5, ↓gf_34, gf_34, ↓pf_34, pf_34, ↓vc_34, vc_34, if_true, if_false, not_true_eq_false, not_false_eq_true, zu_eq, zu_a, zu_j, ge_iff_le, gt_iff_lt, ne_eq, Int.cast_ofNat_Int, Int.add_zero, Int.zero_add, Int.reduceAdd, Int.reduceSub, Int.reduceMul, Int.reduceNeg, ↓gq_5_0 hG, ↓gq_5_1 hG, ↓gq_5_2 hG, ↓gq_5_3 hG, ↓gq_5_4 hG, ↓gq_5_5 hG, ↓gq_5_6 hG, ↓gq_34_0 hG, ↓gq_34_1 hG, ↓gq_34_2 hG, g_5_0 hG, g_5_1 hG, g_5_2 hG, g_5_3 hG, g_5_4 hG, g_5_5 hG, g_5_6 hG, g_34_0 hG, g_34_1 hG, g_34_2 hG]
    · rw [← hp, ← hq]
      by_cases hpp : 0 ≤ p ∧ p < μ 34 3
      · by_cases hqq : 0 ≤ q ∧ q < μ 34 3
        · simp (disch := omega) only [↓znz_ok hn, znz_ok hn, ↓(vq_129 (s11_isPaper hP p)), ↓(vq_129 (s11_isPaper hP q)), ↓(zcall_of (s11_within c 0 1)), ↓zcall_ok, zcall_ok, ↓zjn_ok, zjn_ok, ↓zbl_0, zbl_0, ↓zbl_1, zbl_1, ↓if_pos, if_pos, ↓if_neg, if_neg, ↓zb_ite, zb_ite, ↓zb_itn, zb_itn, ↓gf_129, gf_129, ↓pf_129, pf_129, ↓vc_129, vc_129, if_true, if_false, not_true_eq_false, not_false_eq_true, zu_eq, zu_a, zu_j, ge_iff_le, gt_iff_lt, ne_eq, Int.cast_ofNat_Int, Int.add_zero, Int.zero_add, Int.reduceAdd, Int.reduceSub, Int.reduceMul, Int.reduceNeg, ↓gq_129_0 hG, ↓gq_129_1 hG, ↓gq_129_2 hG, ↓gq_129_3 hG, ↓gq_129_7 hG, ↓gq_129_10 hG, ↓gq_129_11 hG, ↓gq_129_12 hG, ↓gq_129_13 hG, ↓gq_129_19 hG, ↓gq_129_21 hG, ↓gq_129_22 hG, ↓gq_129_23 hG, ↓gq_129_24 hG, ↓gq_129_25 hG, ↓gq_129_26 hG, ↓gq_129_28 hG, ↓gq_129_29 hG, ↓gq_129_33 hG, ↓gq_129_34 hG, ↓gq_129_35 hG, ↓gq_129_36 hG, g_129_0 hG, g_129_1 hG, g_129_2 hG, g_129_3 hG, g_129_7 hG, g_129_10 hG, g_129_11 hG, g_129_12 hG, g_129_13 hG, g_129_19 hG, g_129_21 hG, g_129_22 hG, g_129_23 hG, g_129_24 hG, g_129_25 hG, g_129_26 hG, g_129_28 hG, g_129_29 hG, g_129_33 hG, g_129_34 hG, g_129_35 hG, g_129_36 hG]
        · simp (disch := omega) only [↓znz_ok hn, znz_ok hn, ↓(vq_129 (s11_isPaper hP p)), ↓(vq_129 (s11_isPaper hP q)), ↓(zcall_of (s11_within c 0 1)), ↓zcall_ok, zcall_ok, ↓zjn_ok, zjn_ok, ↓zbl_0, zbl_0, ↓zbl_1, zbl_1, ↓if_pos, if_pos, ↓if_neg, if_neg, ↓zb_ite, zb_ite, ↓zb_itn, zb_itn, ↓gf_129, gf_129, ↓pf_129, pf_129, ↓vc_129, vc_129, if_true, if_false, not_true_eq_false, not_false_eq_true, zu_eq, zu_a, zu_j, ge_iff_le, gt_iff_lt, ne_eq, Int.cast_ofNat_Int, Int.add_zero, Int.zero_add, Int.reduceAdd, Int.reduceSub, Int.reduceMul, Int.reduceNeg, ↓gq_129_0 hG, ↓gq_129_1 hG, ↓gq_129_2 hG, ↓gq_129_3 hG, ↓gq_129_7 hG, ↓gq_129_10 hG, ↓gq_129_11 hG, ↓gq_129_12 hG, ↓gq_129_13 hG, ↓gq_129_19 hG, ↓gq_129_21 hG, ↓gq_129_22 hG, ↓gq_129_23 hG, ↓gq_129_24 hG, ↓gq_129_25 hG, ↓gq_129_26 hG, ↓gq_129_28 hG, ↓gq_129_29 hG, ↓gq_129_33 hG, ↓gq_129_34 hG, ↓gq_129_35 hG, ↓gq_129_36 hG, g_129_0 hG, g_129_1 hG, g_129_2 hG, g_129_3 hG, g_129_7 hG, g_129_10 hG, g_129_11 hG, g_129_12 hG, g_129_13 hG, g_129_19 hG, g_129_21 hG, g_129_22 hG, g_129_23 hG, g_129_24 hG, g_129_25 hG, g_129_26 hG, g_129_28 hG, g_129_29 hG, g_129_33 hG, g_129_34 hG, g_129_35 hG, g_129_36 hG]
      · simp (disch := omega) only [↓znz_ok hn, znz_ok hn, ↓(vq_129 (s11_isPaper hP p)), ↓(vq_129 (s11_isPaper hP q)), ↓(zcall_of (s11_within c 0 1)), ↓zcall_ok, zcall_ok, ↓zjn_ok, zjn_ok, ↓zbl_0, zbl_0, ↓zbl_1, zbl_1, ↓if_pos, if_pos, ↓if_neg, if_neg, ↓zb_ite, zb_ite, ↓zb_itn, zb_itn, ↓gf_129, gf_129, ↓pf_129, pf_129, ↓vc_129, vc_129, if_true, if_false, not_true_eq_false, not_false_eq_true, zu_eq, zu_a, zu_j, ge_iff_le, gt_iff_lt, ne_eq, Int.cast_ofNat_Int, Int.add_zero, Int.zero_add, Int.reduceAdd, Int.reduceSub, Int.reduceMul, Int.reduceNeg, ↓gq_129_0 hG, ↓gq_129_1 hG, ↓gq_129_2 hG, ↓gq_129_3 hG, ↓gq_129_7 hG, ↓gq_129_10 hG, ↓gq_129_11 hG, ↓gq_129_12 hG, ↓gq_129_13 hG, ↓gq_129_19 hG, ↓gq_129_21 hG, ↓gq_129_22 hG, ↓gq_129_23 hG, ↓gq_129_24 hG, ↓gq_129_25 hG, ↓gq_129_26 hG, ↓gq_129_28 hG, ↓gq_129_29 hG, ↓gq_129_33 hG, ↓gq_129_34 hG, ↓gq_129_35 hG, ↓gq_129_36 hG, g_129_0 hG, g_129_1 hG, g_129_2 hG, g_129_3 hG, g_129_7 hG, g_129_10 hG, g_129_11 hG, g_129_12 hG, g_129_13 hG, g_129_19 hG, g_129_21 hG, g_129_22 hG, g_129_23 hG, g_129_24 hG, g_129_25 hG, g_129_26 hG, g_129_28 hG, g_129_29 hG, g_129_33 hG, g_129_34 hG, g_129_35 hG, g_129_36 hG]
  by_cases hpp : 0 ≤ p ∧ p < μ 34 3
  rotate_left
  · have ep : fX1_paper 34 p μ = some (-1, μ) := by rw [e1, if_neg hpp]
    refine ⟨-1, ?_, ?_⟩
    · rw [← hp, ← hq]
      simp (disch := omega) only [↓znz_ok hn, znz_ok hn, ↓(zcall_of (s10_isChoice c)), ↓(vq_34 ep), ↓(vq_34 (e1 q)), ↓zcall_ok, zcall_ok, ↓zjn_ok, zjn_ok, ↓zbl_0, zbl_0, ↓zbl_1, zbl_1, ↓if_pos, if_pos, ↓if_neg, if_neg, ↓zb_ite, zb_ite, ↓zb_itn, zb_itn, ↓gf_5, gf_5, ↓pf_5, pf_5, ↓vc_5, vc_5, ↓gf_34, gf_34, ↓pf_34, pf_34, ↓vc_34, vc_34, if_true, if_false, not_true_eq_false, not_false_eq_true, zu_eq, zu_a, zu_j, ge_iff_le, gt_iff_lt, ne_eq, Int.cast_ofNat_Int, Int.add_zero, Int.zero_add, Int.reduceAdd, Int.reduceSub, Int.reduceMul, Int.reduceNeg, ↓gq_5_0 hG, ↓gq_5_1 hG, ↓gq_5_2 hG, ↓gq_5_3 hG, ↓gq_5_4 hG, ↓gq_5_5 hG, ↓gq_5_6 hG, ↓gq_34_0 hG, ↓gq_34_1 hG, ↓gq_34_2 hG, g_5_0 hG, g_5_1 hG, g_5_2 hG, g_5_3 hG, g_5_4 hG, g_5_5 hG, g_5_6 hG, g_34_0 hG, g_34_1 hG, g_34_2 hG]
    · rw [← hp, ← hq]
      simp (disch := omega) only [↓znz_ok hn, znz_ok hn, ↓(vq_129 (s11_isPaper hP p)), ↓zcall_ok, zcall_ok, ↓zjn_ok, zjn_ok, ↓zbl_0, zbl_0, ↓zbl_1, zbl_1, ↓if_pos, if_pos, ↓if_neg, if_neg, ↓zb_ite, zb_ite, ↓zb_itn, zb_itn, ↓gf_129, gf_129, ↓pf_129, pf_129, ↓vc_129, vc_129, if_true, if_false, not_true_eq_false, not_false_eq_true, zu_eq, zu_a, zu_j, ge_iff_le, gt_iff_lt, ne_eq, Int.cast_ofNat_Int, Int.add_zero, Int.zero_add, Int.reduceAdd, Int.reduceSub, Int.reduceMul, Int.reduceNeg, ↓gq_129_0 hG, ↓gq_129_1 hG, ↓gq_129_2 hG, ↓gq_129_3 hG, ↓gq_129_7 hG, ↓gq_129_10 hG, ↓gq_129_11 hG, ↓gq_129_12 hG, ↓gq_129_13 hG, ↓gq_129_19 hG, ↓gq_129_21 hG, ↓gq_129_22 hG, ↓gq_129_23 hG, ↓gq_129_24 hG, ↓gq_129_25 hG, ↓gq_129_26 hG, ↓gq_129_28 hG, ↓gq_129_29 hG, ↓gq_129_33 hG, ↓gq_129_34 hG, ↓gq_129_35 hG, ↓gq_129_36 hG, g_129_0 hG, g_129_1 hG, g_129_2 hG, g_129_3 hG, g_129_7 hG, g_129_10 hG, g_129_11 hG, g_129_12 hG, g_129_13 hG, g_129_19 hG, g_129_21 hG, g_129_22 hG, g_129_23 hG, g_129_24 hG, g_129_25 hG, g_129_26 hG, g_129_28 hG, g_129_29 hG, g_129_33 hG, g_129_34 hG, g_129_35 hG, g_129_36 hG]
  have ep : fX1_paper 34 p μ = some (zbP p, μ) := by rw [e1, if_pos hpp]
  have hzp : zbP p = 53 + 6 * p := rfl
  by_cases hqq : 0 ≤ q ∧ q < μ 34 3
  rotate_left
  · have eq : fX1_paper 34 q μ = some (-1, μ) := by rw [e1, if_neg hqq]
    refine ⟨-1, ?_, ?_⟩
    · rw [← hp, ← hq]
      simp (disch := omega) only [↓znz_ok hn, znz_ok hn, ↓(zcall_of (s10_isChoice c)), ↓(vq_34 ep), ↓(vq_34 eq), ↓zcall_ok, zcall_ok, ↓zjn_ok, zjn_ok, ↓zbl_0, zbl_0, ↓zbl_1, zbl_1, ↓if_pos, if_pos, ↓if_neg, if_neg, ↓zb_ite, zb_ite, ↓zb_itn, zb_itn, ↓gf_5, gf_5, ↓pf_5, pf_5, ↓vc_5, vc_5, ↓gf_34, gf_34, ↓pf_34, pf_34, ↓vc_34, vc_34, if_true, if_false, not_true_eq_false, not_false_eq_true, zu_eq, zu_a, zu_j, ge_iff_le, gt_iff_lt, ne_eq, Int.cast_ofNat_Int, Int.add_zero, Int.zero_add, Int.reduceAdd, Int.reduceSub, Int.reduceMul, Int.reduceNeg, ↓gq_5_0 hG, ↓gq_5_1 hG, ↓gq_5_2 hG, ↓gq_5_3 hG, ↓gq_5_4 hG, ↓gq_5_5 hG, ↓gq_5_6 hG, ↓gq_34_0 hG, ↓gq_34_1 hG, ↓gq_34_2 hG, g_5_0 hG, g_5_1 hG, g_5_2 hG, g_5_3 hG, g_5_4 hG, g_5_5 hG, g_5_6 hG, g_34_0 hG, g_34_1 hG, g_34_2 hG]
    · rw [← hp, ← hq]
      simp (disch := omega) only [↓znz_ok hn, znz_ok hn, ↓(vq_129 (s11_isPaper hP p)), ↓(vq_129 (s11_isPaper hP q)), ↓zcall_ok, zcall_ok, ↓zjn_ok, zjn_ok, ↓zbl_0, zbl_0, ↓zbl_1, zbl_1, ↓if_pos, if_pos, ↓if_neg, if_neg, ↓zb_ite, zb_ite, ↓zb_itn, zb_itn, ↓gf_129, gf_129, ↓pf_129, pf_129, ↓vc_129, vc_129, if_true, if_false, not_true_eq_false, not_false_eq_true, zu_eq, zu_a, zu_j, ge_iff_le, gt_iff_lt, ne_eq, Int.cast_ofNat_Int, Int.add_zero, Int.zero_add, Int.reduceAdd, Int.reduceSub, Int.reduceMul, Int.reduceNeg, ↓gq_129_0 hG, ↓gq_129_1 hG, ↓gq_129_2 hG, ↓gq_129_3 hG, ↓gq_129_7 hG, ↓gq_129_10 hG, ↓gq_129_11 hG, ↓gq_129_12 hG, ↓gq_129_13 hG, ↓gq_129_19 hG, ↓gq_129_21 hG, ↓gq_129_22 hG, ↓gq_129_23 hG, ↓gq_129_24 hG, ↓gq_129_25 hG, ↓gq_129_26 hG, ↓gq_129_28 hG, ↓gq_129_29 hG, ↓gq_129_33 hG, ↓gq_129_34 hG, ↓gq_129_35 hG, ↓gq_129_36 hG, g_129_0 hG, g_129_1 hG, g_129_2 hG, g_129_3 hG, g_129_7 hG, g_129_10 hG, g_129_11 hG, g_129_12 hG, g_129_13 hG, g_129_19 hG, g_129_21 hG, g_129_22 hG, g_129_23 hG, g_129_24 hG, g_129_25 hG, g_129_26 hG, g_129_28 hG, g_129_29 hG, g_129_33 hG, g_129_34 hG, g_129_35 hG, g_129_36 hG]
  have eq : fX1_paper 34 q μ = some (zbP q, μ) := by rw [e1, if_pos hqq]
  have hzq : zbP q = 53 + 6 * q := rfl
  have bp := h3 p hpp.1 hpp.2
  have bq := h3 q hqq.1 hqq.2
  obtain ⟨f, hf⟩ : ∃ f : Int → Int, ∀ x, f x = zpl (μ (zbP p + 2)) x (μ (zbP p) 1).toNat 0 := ⟨_, fun _ => rfl⟩
  obtain ⟨g, hg⟩ : ∃ g : Int → Int, ∀ x, g x = zpl (μ (zbP q + 2)) x (μ (zbP q) 1).toNat 0 := ⟨_, fun _ => rfl⟩
  have cf : ∀ x, fX6_placeOf (zbP p) x μ = some (f x, μ) := fun x => by rw [hf]; exact s6_placeOf hG hpp.1 (by omega) ⟨bp.1.1, bp.1.2.1⟩ x
  have cg : ∀ x, fX6_placeOf (zbP q) x μ = some (g x, μ) := fun x => by rw [hg]; exact s6_placeOf hG hqq.1 (by omega) ⟨bq.1.1, bq.1.2.1⟩ x
  have rf : ∀ x, fX11_placeOf 129 (zw32 (Int.tdiv pq 10)) x μ = some (f x, μ) := fun x => by rw [← hp, hf]; exact s11_placeOf hG hpp.1 (by omega) bp x
  have rg : ∀ x, fX11_placeOf 129 (Int.tmod pq 10) x μ = some (g x, μ) := fun x => by rw [← hq, hg]; exact s11_placeOf hG hqq.1 (by omega) bq x
  have kf : ∀ x, fX11_has 129 (zw32 (Int.tdiv pq 10)) x μ = some (zb (0 ≤ f x), μ) := fun x => by
    have := s11_has hG hpp.1 (by omega) bp x
    rw [← hf] at this
    rw [← hp]
    exact this
  have kg : ∀ x, fX11_has 129 (Int.tmod pq 10) x μ = some (zb (0 ≤ g x), μ) := fun x => by
    have := s11_has hG hqq.1 (by omega) bq x
    rw [← hg] at this
    rw [← hq]
    exact this
  obtain ⟨N, hN⟩ : ∃ N : Nat, μ 6 1 = N := ⟨(μ 6 1).toNat, by omega⟩
  obtain ⟨h, hh⟩ : ∃ h : Nat → Nat → Int, ∀ a n : Nat, h a n = zb (zFt f g a ((a : Int) + 1 + n)) := ⟨_, fun _ _ => rfl⟩
  obtain ⟨v, hv⟩ : ∃ v : Nat → Nat → Int, ∀ a n : Nat, v a n = zw32 (zw32 (100 * (a : Int)) + ((a : Int) + 1 + n)) := ⟨_, fun _ _ => rfl⟩
  have h01 : ∀ a n, h a n = 0 ∨ h a n = 1 := fun a n => by rw [hh]; exact zb01
  have hi : ∀ a n : Nat, fX1_isFight (zbP p) (zbP q) a ((a : Int) + 1 + n) μ = some (h a n, μ) := fun a n => by rw [hh]; exact s1_isFight ⟨hpp.1, by omega⟩ ⟨hqq.1, by omega⟩ cf cg _ _
  have k1 := s1_fightsOf hG (by omega) hN h01 hi
  have k2 := s1_firstFight hG (by omega) hN h01 hi hv
  have k3 := s11_fight_2 hG (c := c) (by omega) (s2.trans hN) hv rf rg kf kg hh
  refine ⟨if c = 0 then zct h N N else zpfi h v N N, ?_, ?_⟩
  · rw [← hp, ← hq]
    by_cases hc0 : c = 0
    · simp (disch := omega) only [↓znz_ok hn, znz_ok hn, ↓(zcall_of (s10_isChoice c)), ↓(vq_34 ep), ↓(vq_34 eq), ↓(vq_34 k1), ↓zcall_ok, zcall_ok, ↓zjn_ok, zjn_ok, ↓zbl_0, zbl_0, ↓zbl_1, zbl_1, ↓if_pos, if_pos, ↓if_neg, if_neg, ↓zb_ite, zb_ite, ↓zb_itn, zb_itn, ↓gf_5, gf_5, ↓pf_5, pf_5, ↓vc_5, vc_5, ↓gf_34, gf_34, ↓pf_34, pf_34, ↓vc_34, vc_34, if_true, if_false, not_true_eq_false, not_false_eq_true, zu_eq, zu_a, zu_j, ge_iff_le, gt_iff_lt, ne_eq, Int.cast_ofNat_Int, Int.add_zero, Int.zero_add, Int.reduceAdd, Int.reduceSub, Int.reduceMul, Int.reduceNeg, ↓gq_5_0 hG, ↓gq_5_1 hG, ↓gq_5_2 hG, ↓gq_5_3 hG, ↓gq_5_4 hG, ↓gq_5_5 hG, ↓gq_5_6 hG, ↓gq_34_0 hG, ↓gq_34_1 hG, ↓gq_34_2 hG, g_5_0 hG, g_5_1 hG, g_5_2 hG, g_5_3 hG, g_5_4 hG, g_5_5 hG, g_5_6 hG, g_34_0 hG, g_34_1 hG, g_34_2 hG]
    · simp (disch := omega) only [↓znz_ok hn, znz_ok hn, ↓(zcall_of (s10_isChoice c)), ↓(vq_34 ep), ↓(vq_34 eq), ↓(vq_34 k2), ↓zcall_ok, zcall_ok, ↓zjn_ok, zjn_ok, ↓zbl_0, zbl_0, ↓zbl_1, zbl_1, ↓if_pos, if_pos, ↓if_neg, if_neg, ↓zb_ite, zb_ite, ↓zb_itn, zb_itn, ↓gf_5, gf_5, ↓pf_5, pf_5, ↓vc_5, vc_5, ↓gf_34, gf_34, ↓pf_34, pf_34, ↓vc_34, vc_34, if_true, if_false, not_true_eq_false, not_false_eq_true, zu_eq, zu_a, zu_j, ge_iff_le, gt_iff_lt, ne_eq, Int.cast_ofNat_Int, Int.add_zero, Int.zero_add, Int.reduceAdd, Int.reduceSub, Int.reduceMul, Int.reduceNeg, ↓gq_5_0 hG, ↓gq_5_1 hG, ↓gq_5_2 hG, ↓gq_5_3 hG, ↓gq_5_4 hG, ↓gq_5_5 hG, ↓gq_5_6 hG, ↓gq_34_0 hG, ↓gq_34_1 hG, ↓gq_34_2 hG, g_5_0 hG, g_5_1 hG, g_5_2 hG, g_5_3 hG, g_5_4 hG, g_5_5 hG, g_5_6 hG, g_34_0 hG, g_34_1 hG, g_34_2 hG]
  · rw [← hp, ← hq]
    simp (disch := omega) only [↓znz_ok hn, znz_ok hn, ↓(vq_129 (s11_isPaper hP p)), ↓(vq_129 (s11_isPaper hP q)), ↓(zcall_of (s11_within c 0 1)), k3, ↓zcall_ok, zcall_ok, ↓zjn_ok, zjn_ok, ↓zbl_0, zbl_0, ↓zbl_1, zbl_1, ↓if_pos, if_pos, ↓if_neg, if_neg, ↓zb_ite, zb_ite, ↓zb_itn, zb_itn, ↓gf_129, gf_129, ↓pf_129, pf_129, ↓vc_129, vc_129, if_true, if_false, not_true_eq_false, not_false_eq_true, zu_eq, zu_a, zu_j, ge_iff_le, gt_iff_lt, ne_eq, Int.cast_ofNat_Int, Int.add_zero, Int.zero_add, Int.reduceAdd, Int.reduceSub, Int.reduceMul, Int.reduceNeg, ↓gq_129_0 hG, ↓gq_129_1 hG, ↓gq_129_2 hG, ↓gq_129_3 hG, ↓gq_129_7 hG, ↓gq_129_10 hG, ↓gq_129_11 hG, ↓gq_129_12 hG, ↓gq_129_13 hG, ↓gq_129_19 hG, ↓gq_129_21 hG, ↓gq_129_22 hG, ↓gq_129_23 hG, ↓gq_129_24 hG, ↓gq_129_25 hG, ↓gq_129_26 hG, ↓gq_129_28 hG, ↓gq_129_29 hG, ↓gq_129_33 hG, ↓gq_129_34 hG, ↓gq_129_35 hG, ↓gq_129_36 hG, g_129_0 hG, g_129_1 hG, g_129_2 hG, g_129_3 hG, g_129_7 hG, g_129_10 hG, g_129_11 hG, g_129_12 hG, g_129_13 hG, g_129_19 hG, g_129_21 hG, g_129_22 hG, g_129_23 hG, g_129_24 hG, g_129_25 hG, g_129_26 hG, g_129_28 hG, g_129_29 hG, g_129_33 hG, g_129_34 hG, g_129_35 hG, g_129_36 hG]
