/-! ===== loops whose way is known ===== -/
set_option maxHeartbeats 400000 in
theorem zlt1 {bot : Int → zMem → zRs} {F : (Int → zMem → zRs) → (Int → zMem → zRs)} {R : zRs} (A : Nat → Int) (M : Nat → zMem) (N : Nat) (hN : N < 1000000) (hs : ∀ k n, n < N → F k (A n) (M n) = k (A (n + 1)) (M (n + 1))) (he : ∀ k, F k (A N) (M N) = R) : zlp bot F 1000000 (A 0) (M 0) = R := by
  have key : ∀ fuel n : Nat, n ≤ N → N - n < fuel → zlp bot F fuel (A n) (M n) = R := by
    intro fuel
    induction fuel with
    | zero => intro n h1 h2; omega
    | succ fuel ih =>
      intro n h1 h2
      show F (zlp bot F fuel) (A n) (M n) = R
      by_cases hn : n = N
      · rw [hn]; exact he _
      · rw [hs _ n (by omega)]
        exact ih (n + 1) (by omega) (by omega)
  exact key 1000000 0 (by omega) (by omega)
set_option maxHeartbeats 400000 in
theorem zlt2 {bot : Int → Int → zMem → zRs} {F : (Int → Int → zMem → zRs) → (Int → Int → zMem → zRs)} {R : zRs} (A B : Nat → Int) (M : Nat → zMem) (N : Nat) (hN : N < 1000000) (hs : ∀ k n, n < N → F k (A n) (B n) (M n) = k (A (n + 1)) (B (n + 1)) (M (n + 1))) (he : ∀ k, F k (A N) (B N) (M N) = R) : zlp bot F 1000000 (A 0) (B 0) (M 0) = R := by
  have key : ∀ fuel n : Nat, n ≤ N → N - n < fuel → zlp bot F fuel (A n) (B n) (M n) = R := by
    intro fuel
    induction fuel with
    | zero => intro n h1 h2; omega
    | succ fuel ih =>
      intro n h1 h2
      show F (zlp bot F fuel) (A n) (B n) (M n) = R
      by_cases hn : n = N
      · rw [hn]; exact he _
      · rw [hs _ n (by omega)]
        exact ih (n + 1) (by omega) (by omega)
  exact key 1000000 0 (by omega) (by omega)
set_option maxHeartbeats 400000 in
theorem zlt3 {bot : Int → Int → Int → zMem → zRs} {F : (Int → Int → Int → zMem → zRs) → (Int → Int → Int → zMem → zRs)} {R : zRs} (A B C : Nat → Int) (M : Nat → zMem) (N : Nat) (hN : N < 1000000) (hs : ∀ k n, n < N → F k (A n) (B n) (C n) (M n) = k (A (n + 1)) (B (n + 1)) (C (n + 1)) (M (n + 1))) (he : ∀ k, F k (A N) (B N) (C N) (M N) = R) : zlp bot F 1000000 (A 0) (B 0) (C 0) (M 0) = R := by
  have key : ∀ fuel n : Nat, n ≤ N → N - n < fuel → zlp bot F fuel (A n) (B n) (C n) (M n) = R := by
    intro fuel
    induction fuel with
    | zero => intro n h1 h2; omega
    | succ fuel ih =>
      intro n h1 h2
      show F (zlp bot F fuel) (A n) (B n) (C n) (M n) = R
      by_cases hn : n = N
      · rw [hn]; exact he _
      · rw [hs _ n (by omega)]
        exact ih (n + 1) (by omega) (by omega)
  exact key 1000000 0 (by omega) (by omega)
set_option maxHeartbeats 400000 in
theorem zle2 {bot : Int → Int → zMem → zRs} {F : (Int → Int → zMem → zRs) → (Int → Int → zMem → zRs)} {R : zRs} {a0 b0 : Int} {u0 : zMem} (A B : Nat → Int) (M : Nat → zMem) (hA : A 0 = a0) (hB : B 0 = b0) (hM : M 0 = u0) (N : Nat) (hN : N < 1000000) (hs : ∀ k n, n < N → F k (A n) (B n) (M n) = k (A (n + 1)) (B (n + 1)) (M (n + 1))) (he : ∀ k, F k (A N) (B N) (M N) = R) : zlp bot F 1000000 a0 b0 u0 = R := by
  rw [← hA, ← hB, ← hM]
  exact zlt2 A B M N hN hs he
set_option maxHeartbeats 400000 in
theorem zle3 {bot : Int → Int → Int → zMem → zRs} {F : (Int → Int → Int → zMem → zRs) → (Int → Int → Int → zMem → zRs)} {R : zRs} {a0 b0 c0 : Int} {u0 : zMem} (A B C : Nat → Int) (M : Nat → zMem) (hA : A 0 = a0) (hB : B 0 = b0) (hC : C 0 = c0) (hM : M 0 = u0) (N : Nat) (hN : N < 1000000) (hs : ∀ k n, n < N → F k (A n) (B n) (C n) (M n) = k (A (n + 1)) (B (n + 1)) (C (n + 1)) (M (n + 1))) (he : ∀ k, F k (A N) (B N) (C N) (M N) = R) : zlp bot F 1000000 a0 b0 c0 u0 = R := by
  rw [← hA, ← hB, ← hC, ← hM]
  exact zlt3 A B C M N hN hs he
set_option maxHeartbeats 400000 in
theorem zle1 {bot : Int → zMem → zRs} {F : (Int → zMem → zRs) → (Int → zMem → zRs)} {R : zRs} {a0 : Int} {u0 : zMem} (A : Nat → Int) (M : Nat → zMem) (hA : A 0 = a0) (hM : M 0 = u0) (N : Nat) (hN : N < 1000000) (hs : ∀ k n, n < N → F k (A n) (M n) = k (A (n + 1)) (M (n + 1))) (he : ∀ k, F k (A N) (M N) = R) : zlp bot F 1000000 a0 u0 = R := by
  rw [← hA, ← hM]
  exact zlt1 A M N hN hs he
/- an index alone, memory as it is -/
set_option maxHeartbeats 400000 in
theorem zlI {bot : Int → zMem → zRs} {F : (Int → zMem → zRs) → (Int → zMem → zRs)} {R : zRs} {μ : zMem} (N : Nat) (hN : N < 1000000) (hs : ∀ k (n : Nat), n < N → F k n μ = k ((n + 1 : Nat) : Int) μ) (he : ∀ k, F k N μ = R) : zlp bot F 1000000 0 μ = R := zlt1 (fun n => (n : Int)) (fun _ => μ) N hN hs he
/- a sum and an index -/
set_option maxHeartbeats 400000 in
theorem zlA {bot : Int → Int → zMem → zRs} {F : (Int → Int → zMem → zRs) → (Int → Int → zMem → zRs)} {R : zRs} {μ : zMem} {a0 : Int} (S : Nat → Int) (h0 : S 0 = a0) (N : Nat) (hN : N < 1000000) (hs : ∀ k (n : Nat), n < N → F k (S n) n μ = k (S (n + 1)) ((n + 1 : Nat) : Int) μ) (he : ∀ k, F k (S N) N μ = R) : zlp bot F 1000000 a0 0 μ = R := by
  rw [← h0]
  exact zlt2 S (fun n => (n : Int)) (fun _ => μ) N hN hs he
set_option maxHeartbeats 400000 in
theorem zupn {n : Nat} (h : n < 1000000) : zw32 ((n : Int) + 1) = ((n + 1 : Nat) : Int) := by rw [zw32_id (by omega) (by omega)]; omega
set_option maxHeartbeats 400000 in
theorem zsm_S {f : Int → Int} {n : Nat} : zsm f (n + 1) = zsm f n + f n := rfl
/-! ===== sure ===== -/
set_option maxHeartbeats 400000 in
theorem zbit01 {x : Int} {W : Nat} (hW : W ≤ 4) (h0 : 0 ≤ x) (h1 : x < 2 ^ W) {i : Nat} (hi : i < W) : 0 ≤ zand (zshr x i) 1 ∧ zand (zshr x i) 1 ≤ 1 := by
  have : ∀ V : Nat, V < 5 → ∀ a : Nat, a < 2 ^ V → ∀ b : Nat, b < V → 0 ≤ zand (zshr a b) 1 ∧ zand (zshr a b) 1 ≤ 1 := by decide +kernel
  obtain ⟨a, rfl⟩ : ∃ a : Nat, x = a := ⟨x.toNat, by omega⟩
  exact this W (by omega) a (by exact_mod_cast h1) i hi
set_option maxHeartbeats 400000 in
theorem zsm_01 {T : Int → Int} : ∀ n : Nat, (∀ i : Nat, i < n → 0 ≤ T i ∧ T i ≤ 1) → 0 ≤ zsm T n ∧ zsm T n ≤ n
  | 0, _ => by simp [zsm]
  | n + 1, h => by
    have h1 := zsm_01 n (fun i hi => h i (by omega))
    have h2 := h n (by omega)
    rw [zsm_S]
    omega
set_option maxHeartbeats 400000 in
theorem s11_sure_1 {μ : zMem} (hG : zG0 μ) {x c B r0 : Int} {T : Int → Int} {W : Nat} (hW4 : W ≤ 4) (hW : μ 129 9 = W) (hT : ∀ i, T i = zand (zshr B i) 1) (hb : ∀ n : Nat, n < W → 0 ≤ T n ∧ T n ≤ 1) (eh : fX11_hadBy 129 x μ = some (r0, μ)) :
    lX11_sure_1 129 x c B 0 0 μ = some (if c = 0 then r0 else zsm T W, μ) := by
  unfold lX11_sure_1
  refine zlA (zsm T) rfl W (by omega) (fun k n hn => ?_) (fun k => ?_)
  · have h1 := zsm_01 (T := T) (n + 1) (fun i hi => hb i (by omega))
    rw [zsm_S] at h1
    have h2 := hT n
    have hup := zupn (n := n) (by omega)
    have h3 : zw32 (zsm T n + T n) = zsm T (n + 1) := by rw [zw32_id (by omega) (by omega), zsm_S]
    simp (disch := omega) only [hW, hup, ← h2, h3, ↓zcall_ok, zcall_ok, ↓zjn_ok, zjn_ok, ↓zbl_0, zbl_0, ↓zbl_1, zbl_1, ↓if_pos, if_pos, ↓if_neg, if_neg, ↓zb_ite, zb_ite, ↓zb_itn, zb_itn, ↓gf_129, gf_129, ↓pf_129, pf_129, ↓vc_129, vc_129, if_true, if_false, not_true_eq_false, not_false_eq_true, zu_eq, zu_a, zu_j, ge_iff_le, gt_iff_lt, ne_eq, Int.cast_ofNat_Int, Int.add_zero, Int.zero_add, Int.reduceAdd, Int.reduceSub, Int.reduceMul, Int.reduceNeg, ↓gq_129_0 hG, ↓gq_129_1 hG, ↓gq_129_2 hG, ↓gq_129_3 hG, ↓gq_129_7 hG, ↓gq_129_10 hG, ↓gq_129_11 hG, ↓gq_129_12 hG, ↓gq_129_13 hG, ↓gq_129_19 hG, ↓gq_129_21 hG, ↓gq_129_22 hG, ↓gq_129_23 hG, ↓gq_129_24 hG, ↓gq_129_25 hG, ↓gq_129_26 hG, ↓gq_129_28 hG, ↓gq_129_29 hG, ↓gq_129_33 hG, ↓gq_129_34 hG, ↓gq_129_35 hG, ↓gq_129_36 hG, g_129_0 hG, g_129_1 hG, g_129_2 hG, g_129_3 hG, g_129_7 hG, g_129_10 hG, g_129_11 hG, g_129_12 hG, g_129_13 hG, g_129_19 hG, g_129_21 hG, g_129_22 hG, g_129_23 hG, g_129_24 hG, g_129_25 hG, g_129_26 hG, g_129_28 hG, g_129_29 hG, g_129_33 hG, g_129_34 hG, g_129_35 hG, g_129_36 hG]
  · by_cases hc0 : c = 0
    · simp (disch := omega) only [hW, ↓(vq_129 eh), ↓zcall_ok, zcall_ok, ↓zjn_ok, zjn_ok, ↓zbl_0, zbl_0, ↓zbl_1, zbl_1, ↓if_pos, if_pos, ↓if_neg, if_neg, ↓zb_ite, zb_ite, ↓zb_itn, zb_itn, ↓gf_129, gf_129, ↓pf_129, pf_129, ↓vc_129, vc_129, if_true, if_false, not_true_eq_false, not_false_eq_true, zu_eq, zu_a, zu_j, ge_iff_le, gt_iff_lt, ne_eq, Int.cast_ofNat_Int, Int.add_zero, Int.zero_add, Int.reduceAdd, Int.reduceSub, Int.reduceMul, Int.reduceNeg, ↓gq_129_0 hG, ↓gq_129_1 hG, ↓gq_129_2 hG, ↓gq_129_3 hG, ↓gq_129_7 hG, ↓gq_129_10 hG, ↓gq_129_11 hG, ↓gq_129_12 hG, ↓gq_129_13 hG, ↓gq_129_19 hG, ↓gq_129_21 hG, ↓gq_129_22 hG, ↓gq_129_23 hG, ↓gq_129_24 hG, ↓gq_129_25 hG, ↓gq_129_26 hG, ↓gq_129_28 hG, ↓gq_129_29 hG, ↓gq_129_33 hG, ↓gq_129_34 hG, ↓gq_129_35 hG, ↓gq_129_36 hG, g_129_0 hG, g_129_1 hG, g_129_2 hG, g_129_3 hG, g_129_7 hG, g_129_10 hG, g_129_11 hG, g_129_12 hG, g_129_13 hG, g_129_19 hG, g_129_21 hG, g_129_22 hG, g_129_23 hG, g_129_24 hG, g_129_25 hG, g_129_26 hG, g_129_28 hG, g_129_29 hG, g_129_33 hG, g_129_34 hG, g_129_35 hG, g_129_36 hG]
    · simp (disch := omega) only [hW, ↓zcall_ok, zcall_ok, ↓zjn_ok, zjn_ok, ↓zbl_0, zbl_0, ↓zbl_1, zbl_1, ↓if_pos, if_pos, ↓if_neg, if_neg, ↓zb_ite, zb_ite, ↓zb_itn, zb_itn, ↓gf_129, gf_129, ↓pf_129, pf_129, ↓vc_129, vc_129, if_true, if_false, not_true_eq_false, not_false_eq_true, zu_eq, zu_a, zu_j, ge_iff_le, gt_iff_lt, ne_eq, Int.cast_ofNat_Int, Int.add_zero, Int.zero_add, Int.reduceAdd, Int.reduceSub, Int.reduceMul, Int.reduceNeg, ↓gq_129_0 hG, ↓gq_129_1 hG, ↓gq_129_2 hG, ↓gq_129_3 hG, ↓gq_129_7 hG, ↓gq_129_10 hG, ↓gq_129_11 hG, ↓gq_129_12 hG, ↓gq_129_13 hG, ↓gq_129_19 hG, ↓gq_129_21 hG, ↓gq_129_22 hG, ↓gq_129_23 hG, ↓gq_129_24 hG, ↓gq_129_25 hG, ↓gq_129_26 hG, ↓gq_129_28 hG, ↓gq_129_29 hG, ↓gq_129_33 hG, ↓gq_129_34 hG, ↓gq_129_35 hG, ↓gq_129_36 hG, g_129_0 hG, g_129_1 hG, g_129_2 hG, g_129_3 hG, g_129_7 hG, g_129_10 hG, g_129_11 hG, g_129_12 hG, g_129_13 hG, g_129_19 hG, g_129_21 hG, g_129_22 hG, g_129_23 hG, g_129_24 hG, g_129_25 hG, g_129_26 hG, g_129_28 hG, g_129_29 hG, g_129_33 hG, g_129_34 hG, g_129_35 hG, g_129_36 hG]
set_option maxHeartbeats 400000 in
theorem s11_sure_2 {μ : zMem} (hG : zG0 μ) {x c : Int} {H w : Int → Int} {P : Nat} (hP10 : P ≤ 10) (p2 : μ 129 20 = P) (h140 : ∀ n : Nat, n < P → μ 140 n = w n) (hH : ∀ n : Nat, n < P → fX11_has 129 n x μ = some (H n, μ)) (h01 : ∀ n : Nat, n < P → H n = 0 ∨ H n = 1)
    (hin : ∀ n : Nat, n ≤ P → 0 ≤ zwb H w n ∧ zwb H w n < 16) {R : zRs} (hR : lX11_sure_1 129 x c (zwb H w P) 0 0 μ = R) : lX11_sure_2 129 x c 0 0 μ = R := by
  unfold lX11_sure_2
  refine zlA (zwb H w) rfl P (by omega) (fun k n hn => ?_) (fun k => ?_)
  · have hup := zupn (n := n) (by omega)
    have e6 := hH n hn
    have h1 := h140 n hn
    have h0 : zor (zwb H w n) 0 = zwb H w n := zor_0 (by have := hin n (by omega); omega) (by have := hin n (by omega); omega)
    rcases h01 n hn with hq | hq
    · have hf : zwb H w (n + 1) = zwb H w n := zwb_f (fun q => by omega)
      rw [hq] at e6
      by_cases hq2 : 0 ≤ w n
      · simp (disch := omega) only [p2, h1, ↓(vq_129 e6), hup, h0, hf, ↓zcall_ok, zcall_ok, ↓zjn_ok, zjn_ok, ↓zbl_0, zbl_0, ↓zbl_1, zbl_1, ↓if_pos, if_pos, ↓if_neg, if_neg, ↓zb_ite, zb_ite, ↓zb_itn, zb_itn, ↓gf_129, gf_129, ↓pf_129, pf_129, ↓vc_129, vc_129, ↓al_140, al_140, ↓as_140, as_140, ↓ln_140, ln_140, if_true, if_false, not_true_eq_false, not_false_eq_true, zu_eq, zu_a, zu_j, ge_iff_le, gt_iff_lt, ne_eq, Int.cast_ofNat_Int, Int.add_zero, Int.zero_add, Int.reduceAdd, Int.reduceSub, Int.reduceMul, Int.reduceNeg, ↓gq_129_0 hG, ↓gq_129_1 hG, ↓gq_129_2 hG, ↓gq_129_3 hG, ↓gq_129_7 hG, ↓gq_129_10 hG, ↓gq_129_11 hG, ↓gq_129_12 hG, ↓gq_129_13 hG, ↓gq_129_19 hG, ↓gq_129_21 hG, ↓gq_129_22 hG, ↓gq_129_23 hG, ↓gq_129_24 hG, ↓gq_129_25 hG, ↓gq_129_26 hG, ↓gq_129_28 hG, ↓gq_129_29 hG, ↓gq_129_33 hG, ↓gq_129_34 hG, ↓gq_129_35 hG, ↓gq_129_36 hG, g_129_0 hG, g_129_1 hG, g_129_2 hG, g_129_3 hG, g_129_7 hG, g_129_10 hG, g_129_11 hG, g_129_12 hG, g_129_13 hG, g_129_19 hG, g_129_21 hG, g_129_22 hG, g_129_23 hG, g_129_24 hG, g_129_25 hG, g_129_26 hG, g_129_28 hG, g_129_29 hG, g_129_33 hG, g_129_34 hG, g_129_35 hG, g_129_36 hG]
      · simp (disch := omega) only [p2, h1, ↓(vq_129 e6), hup, h0, hf, ↓zcall_ok, zcall_ok, ↓zjn_ok, zjn_ok, ↓zbl_0, zbl_0, ↓zbl_1, zbl_1, ↓if_pos, if_pos, ↓if_neg, if_neg, ↓zb_ite, zb_ite, ↓zb_itn, zb_itn, ↓gf_129, gf_129, ↓pf_129, pf_129, ↓vc_129, vc_129, ↓al_140, al_140, ↓as_140, as_140, ↓ln_140, ln_140, if_true, if_false, not_true_eq_false, not_false_eq_true, zu_eq, zu_a, zu_j, ge_iff_le, gt_iff_lt, ne_eq, Int.cast_ofNat_Int, Int.add_zero, Int.zero_add, Int.reduceAdd, Int.reduceSub, Int.reduceMul, Int.reduceNeg, ↓gq_129_0 hG, ↓gq_129_1 hG, ↓gq_129_2 hG, ↓gq_129_3 hG, ↓gq_129_7 hG, ↓gq_129_10 hG, ↓gq_129_11 hG, ↓gq_129_12 hG, ↓gq_129_13 hG, ↓gq_129_19 hG, ↓gq_129_21 hG, ↓gq_129_22 hG, ↓gq_129_23 hG, ↓gq_129_24 hG, ↓gq_129_25 hG, ↓gq_129_26 hG, ↓gq_129_28 hG, ↓gq_129_29 hG, ↓gq_129_33 hG, ↓gq_129_34 hG, ↓gq_129_35 hG, ↓gq_129_36 hG, g_129_0 hG, g_129_1 hG, g_129_2 hG, g_129_3 hG, g_129_7 hG, g_129_10 hG, g_129_11 hG, g_129_12 hG, g_129_13 hG, g_129_19 hG, g_129_21 hG, g_129_22 hG, g_129_23 hG, g_129_24 hG, g_129_25 hG, g_129_26 hG, g_129_28 hG, g_129_29 hG, g_129_33 hG, g_129_34 hG, g_129_35 hG, g_129_36 hG]
    · rw [hq] at e6
      by_cases hq2 : 0 ≤ w n
      · have hf : zwb H w (n + 1) = zor (zwb H w n) (zshl 1 (w n)) := zwb_t ⟨hq, hq2⟩
        simp (disch := omega) only [p2, h1, ↓(vq_129 e6), hup, hf, ↓zcall_ok, zcall_ok, ↓zjn_ok, zjn_ok, ↓zbl_0, zbl_0, ↓zbl_1, zbl_1, ↓if_pos, if_pos, ↓if_neg, if_neg, ↓zb_ite, zb_ite, ↓zb_itn, zb_itn, ↓gf_129, gf_129, ↓pf_129, pf_129, ↓vc_129, vc_129, ↓al_140, al_140, ↓as_140, as_140, ↓ln_140, ln_140, if_true, if_false, not_true_eq_false, not_false_eq_true, zu_eq, zu_a, zu_j, ge_iff_le, gt_iff_lt, ne_eq, Int.cast_ofNat_Int, Int.add_zero, Int.zero_add, Int.reduceAdd, Int.reduceSub, Int.reduceMul, Int.reduceNeg, ↓gq_129_0 hG, ↓gq_129_1 hG, ↓gq_129_2 hG, ↓gq_129_3 hG, ↓gq_129_7 hG, ↓gq_129_10 hG, ↓gq_129_11 hG, ↓gq_129_12 hG, ↓gq_129_13 hG, ↓gq_129_19 hG, ↓gq_129_21 hG, ↓gq_129_22 hG, ↓gq_129_23 hG, ↓gq_129_24 hG, ↓gq_129_25 hG, ↓gq_129_26 hG, ↓gq_129_28 hG, ↓gq_129_29 hG, ↓gq_129_33 hG, ↓gq_129_34 hG, ↓gq_129_35 hG, ↓gq_129_36 hG, g_129_0 hG, g_129_1 hG, g_129_2 hG, g_129_3 hG, g_129_7 hG, g_129_10 hG, g_129_11 hG, g_129_12 hG, g_129_13 hG, g_129_19 hG, g_129_21 hG, g_129_22 hG, g_129_23 hG, g_129_24 hG, g_129_25 hG, g_129_26 hG, g_129_28 hG, g_129_29 hG, g_129_33 hG, g_129_34 hG, g_129_35 hG, g_129_36 hG]
      · have hf : zwb H w (n + 1) = zwb H w n := zwb_f (fun q => hq2 q.2)
        simp (disch := omega) only [p2, h1, ↓(vq_129 e6), hup, h0, hf, ↓zcall_ok, zcall_ok, ↓zjn_ok, zjn_ok, ↓zbl_0, zbl_0, ↓zbl_1, zbl_1, ↓if_pos, if_pos, ↓if_neg, if_neg, ↓zb_ite, zb_ite, ↓zb_itn, zb_itn, ↓gf_129, gf_129, ↓pf_129, pf_129, ↓vc_129, vc_129, ↓al_140, al_140, ↓as_140, as_140, ↓ln_140, ln_140, if_true, if_false, not_true_eq_false, not_false_eq_true, zu_eq, zu_a, zu_j, ge_iff_le, gt_iff_lt, ne_eq, Int.cast_ofNat_Int, Int.add_zero, Int.zero_add, Int.reduceAdd, Int.reduceSub, Int.reduceMul, Int.reduceNeg, ↓gq_129_0 hG, ↓gq_129_1 hG, ↓gq_129_2 hG, ↓gq_129_3 hG, ↓gq_129_7 hG, ↓gq_129_10 hG, ↓gq_129_11 hG, ↓gq_129_12 hG, ↓gq_129_13 hG, ↓gq_129_19 hG, ↓gq_129_21 hG, ↓gq_129_22 hG, ↓gq_129_23 hG, ↓gq_129_24 hG, ↓gq_129_25 hG, ↓gq_129_26 hG, ↓gq_129_28 hG, ↓gq_129_29 hG, ↓gq_129_33 hG, ↓gq_129_34 hG, ↓gq_129_35 hG, ↓gq_129_36 hG, g_129_0 hG, g_129_1 hG, g_129_2 hG, g_129_3 hG, g_129_7 hG, g_129_10 hG, g_129_11 hG, g_129_12 hG, g_129_13 hG, g_129_19 hG, g_129_21 hG, g_129_22 hG, g_129_23 hG, g_129_24 hG, g_129_25 hG, g_129_26 hG, g_129_28 hG, g_129_29 hG, g_129_33 hG, g_129_34 hG, g_129_35 hG, g_129_36 hG]
  · simp (disch := omega) only [p2, hR, ↓zcall_ok, zcall_ok, ↓zjn_ok, zjn_ok, ↓zbl_0, zbl_0, ↓zbl_1, zbl_1, ↓if_pos, if_pos, ↓if_neg, if_neg, ↓zb_ite, zb_ite, ↓zb_itn, zb_itn, ↓gf_129, gf_129, ↓pf_129, pf_129, ↓vc_129, vc_129, if_true, if_false, not_true_eq_false, not_false_eq_true, zu_eq, zu_a, zu_j, ge_iff_le, gt_iff_lt, ne_eq, Int.cast_ofNat_Int, Int.add_zero, Int.zero_add, Int.reduceAdd, Int.reduceSub, Int.reduceMul, Int.reduceNeg, ↓gq_129_0 hG, ↓gq_129_1 hG, ↓gq_129_2 hG, ↓gq_129_3 hG, ↓gq_129_7 hG, ↓gq_129_10 hG, ↓gq_129_11 hG, ↓gq_129_12 hG, ↓gq_129_13 hG, ↓gq_129_19 hG, ↓gq_129_21 hG, ↓gq_129_22 hG, ↓gq_129_23 hG, ↓gq_129_24 hG, ↓gq_129_25 hG, ↓gq_129_26 hG, ↓gq_129_28 hG, ↓gq_129_29 hG, ↓gq_129_33 hG, ↓gq_129_34 hG, ↓gq_129_35 hG, ↓gq_129_36 hG, g_129_0 hG, g_129_1 hG, g_129_2 hG, g_129_3 hG, g_129_7 hG, g_129_10 hG, g_129_11 hG, g_129_12 hG, g_129_13 hG, g_129_19 hG, g_129_21 hG, g_129_22 hG, g_129_23 hG, g_129_24 hG, g_129_25 hG, g_129_26 hG, g_129_28 hG, g_129_29 hG, g_129_33 hG, g_129_34 hG, g_129_35 hG, g_129_36 hG]
set_option maxHeartbeats 400000 in
theorem s1_writersWith {μ : zMem} (hG : zG0 μ) {x : Int} {H w pl : Int → Int} {P : Nat} (hP10 : P ≤ 10) (hPn : μ 34 3 = P) (hw : ∀ n : Nat, n < P → μ (zbP n) 2 = w n) (hp : ∀ n : Nat, n < P → fX6_placeOf (zbP n) x μ = some (pl n, μ)) (hH : ∀ n : Nat, n < P → H n = zb (0 ≤ pl n))
    {R : zRs} (hR : zcall (fJ6_bitCount_0f7a4 (zwb H w P) μ) (fun v6 u7 => some (v6, u7)) = R) : fX1_writersWith 34 x μ = R := by
  rw [eX1_writersWith]
  unfold lX1_writersWith_1
  refine zlA (zwb H w) rfl P (by omega) (fun k n hn => ?_) (fun k => ?_)
  · have hup := zupn (n := n) (by omega)
    have hz : zbP (n : Int) = 53 + 6 * (n : Int) := rfl
    have e6 := hp n hn
    have hHn := hH n hn
    have eb : fX6_by (zbP n) μ = some (w n, μ) := by
      unfold fX6_by
      simp (disch := omega) only [gfP, hw n hn, ↓zcall_ok, zcall_ok, ↓zjn_ok, zjn_ok, ↓zbl_0, zbl_0, ↓zbl_1, zbl_1, ↓if_pos, if_pos, ↓if_neg, if_neg, ↓zb_ite, zb_ite, ↓zb_itn, zb_itn, ↓gf_34, gf_34, ↓pf_34, pf_34, ↓vc_34, vc_34, if_true, if_false, not_true_eq_false, not_false_eq_true, zu_eq, zu_a, zu_j, ge_iff_le, gt_iff_lt, ne_eq, Int.cast_ofNat_Int, Int.add_zero, Int.zero_add, Int.reduceAdd, Int.reduceSub, Int.reduceMul, Int.reduceNeg, ↓gq_34_0 hG, ↓gq_34_1 hG, ↓gq_34_2 hG, g_34_0 hG, g_34_1 hG, g_34_2 hG]
    by_cases hq : 0 ≤ pl n
    · rw [zb_t hq] at hHn
      by_cases hq2 : 0 ≤ w n
      · have hf : zwb H w (n + 1) = zor (zwb H w n) (zshl 1 (w n)) := zwb_t ⟨hHn, hq2⟩
        simp (disch := omega) only [hPn, ↓aq_35 hG, ↓(vcP_of (p := (n : Int)) (by omega) (by omega) eb), ↓(vcP_of (p := (n : Int)) (by omega) (by omega) e6), hup, hf, ↓zcall_ok, zcall_ok, ↓zjn_ok, zjn_ok, ↓zbl_0, zbl_0, ↓zbl_1, zbl_1, ↓if_pos, if_pos, ↓if_neg, if_neg, ↓zb_ite, zb_ite, ↓zb_itn, zb_itn, ↓gf_34, gf_34, ↓pf_34, pf_34, ↓vc_34, vc_34, if_true, if_false, not_true_eq_false, not_false_eq_true, zu_eq, zu_a, zu_j, ge_iff_le, gt_iff_lt, ne_eq, Int.cast_ofNat_Int, Int.add_zero, Int.zero_add, Int.reduceAdd, Int.reduceSub, Int.reduceMul, Int.reduceNeg, ↓gq_34_0 hG, ↓gq_34_1 hG, ↓gq_34_2 hG, g_34_0 hG, g_34_1 hG, g_34_2 hG]
      · have hf : zwb H w (n + 1) = zwb H w n := zwb_f (fun q => hq2 q.2)
        simp (disch := omega) only [hPn, ↓aq_35 hG, ↓(vcP_of (p := (n : Int)) (by omega) (by omega) eb), ↓(vcP_of (p := (n : Int)) (by omega) (by omega) e6), hup, hf, ↓zcall_ok, zcall_ok, ↓zjn_ok, zjn_ok, ↓zbl_0, zbl_0, ↓zbl_1, zbl_1, ↓if_pos, if_pos, ↓if_neg, if_neg, ↓zb_ite, zb_ite, ↓zb_itn, zb_itn, ↓gf_34, gf_34, ↓pf_34, pf_34, ↓vc_34, vc_34, if_true, if_false, not_true_eq_false, not_false_eq_true, zu_eq, zu_a, zu_j, ge_iff_le, gt_iff_lt, ne_eq, Int.cast_ofNat_Int, Int.add_zero, Int.zero_add, Int.reduceAdd, Int.reduceSub, Int.reduceMul, Int.reduceNeg, ↓gq_34_0 hG, ↓gq_34_1 hG, ↓gq_34_2 hG, g_34_0 hG, g_34_1 hG, g_34_2 hG]
    · rw [zb_f hq] at hHn
      have hf : zwb H w (n + 1) = zwb H w n := zwb_f (fun q => by omega)
      by_cases hq2 : 0 ≤ w n
      · simp (disch := omega) only [hPn, ↓aq_35 hG, ↓(vcP_of (p := (n : Int)) (by omega) (by omega) eb), ↓(vcP_of (p := (n : Int)) (by omega) (by omega) e6), hup, hf, ↓zcall_ok, zcall_ok, ↓zjn_ok, zjn_ok, ↓zbl_0, zbl_0, ↓zbl_1, zbl_1, ↓if_pos, if_pos, ↓if_neg, if_neg, ↓zb_ite, zb_ite, ↓zb_itn, zb_itn, ↓gf_34, gf_34, ↓pf_34, pf_34, ↓vc_34, vc_34, if_true, if_false, not_true_eq_false, not_false_eq_true, zu_eq, zu_a, zu_j, ge_iff_le, gt_iff_lt, ne_eq, Int.cast_ofNat_Int, Int.add_zero, Int.zero_add, Int.reduceAdd, Int.reduceSub, Int.reduceMul, Int.reduceNeg, ↓gq_34_0 hG, ↓gq_34_1 hG, ↓gq_34_2 hG, g_34_0 hG, g_34_1 hG, g_34_2 hG]
      · simp (disch := omega) only [hPn, ↓aq_35 hG, ↓(vcP_of (p := (n : Int)) (by omega) (by omega) eb), ↓(vcP_of (p := (n : Int)) (by omega) (by omega) e6), hup, hf, ↓zcall_ok, zcall_ok, ↓zjn_ok, zjn_ok, ↓zbl_0, zbl_0, ↓zbl_1, zbl_1, ↓if_pos, if_pos, ↓if_neg, if_neg, ↓zb_ite, zb_ite, ↓zb_itn, zb_itn, ↓gf_34, gf_34, ↓pf_34, pf_34, ↓vc_34, vc_34, if_true, if_false, not_true_eq_false, not_false_eq_true, zu_eq, zu_a, zu_j, ge_iff_le, gt_iff_lt, ne_eq, Int.cast_ofNat_Int, Int.add_zero, Int.zero_add, Int.reduceAdd, Int.reduceSub, Int.reduceMul, Int.reduceNeg, ↓gq_34_0 hG, ↓gq_34_1 hG, ↓gq_34_2 hG, g_34_0 hG, g_34_1 hG, g_34_2 hG]
  · simp (disch := omega) only [hPn, ↓zcall_ok, zcall_ok, ↓zjn_ok, zjn_ok, ↓zbl_0, zbl_0, ↓zbl_1, zbl_1, ↓if_pos, if_pos, ↓if_neg, if_neg, ↓zb_ite, zb_ite, ↓zb_itn, zb_itn, ↓gf_34, gf_34, ↓pf_34, pf_34, ↓vc_34, vc_34, if_true, if_false, not_true_eq_false, not_false_eq_true, zu_eq, zu_a, zu_j, ge_iff_le, gt_iff_lt, ne_eq, Int.cast_ofNat_Int, Int.add_zero, Int.zero_add, Int.reduceAdd, Int.reduceSub, Int.reduceMul, Int.reduceNeg, ↓gq_34_0 hG, ↓gq_34_1 hG, ↓gq_34_2 hG, g_34_0 hG, g_34_1 hG, g_34_2 hG]
    exact hR
set_option maxHeartbeats 400000 in
theorem s10_isChoice {μ : zMem} (x : Int) : fX10_isChoice x μ = some (zb (0 ≤ x ∧ x ≤ 1), μ) := by
  unfold fX10_isChoice
  by_cases h0 : x = 0
  · simp (disch := omega) only [zb_t, ↓zcall_ok, zcall_ok, ↓zjn_ok, zjn_ok, ↓zbl_0, zbl_0, ↓zbl_1, zbl_1, ↓if_pos, if_pos, ↓if_neg, if_neg, ↓zb_ite, zb_ite, ↓zb_itn, zb_itn, ↓gf_6, gf_6, ↓pf_6, pf_6, ↓vc_6, vc_6, if_true, if_false, not_true_eq_false, not_false_eq_true, zu_eq, zu_a, zu_j, ge_iff_le, gt_iff_lt, ne_eq, Int.cast_ofNat_Int, Int.add_zero, Int.zero_add, Int.reduceAdd, Int.reduceSub, Int.reduceMul, Int.reduceNeg]
  · by_cases h1 : x = 1
    · simp (disch := omega) only [zb_t, ↓zcall_ok, zcall_ok, ↓zjn_ok, zjn_ok, ↓zbl_0, zbl_0, ↓zbl_1, zbl_1, ↓if_pos, if_pos, ↓if_neg, if_neg, ↓zb_ite, zb_ite, ↓zb_itn, zb_itn, ↓gf_6, gf_6, ↓pf_6, pf_6, ↓vc_6, vc_6, if_true, if_false, not_true_eq_false, not_false_eq_true, zu_eq, zu_a, zu_j, ge_iff_le, gt_iff_lt, ne_eq, Int.cast_ofNat_Int, Int.add_zero, Int.zero_add, Int.reduceAdd, Int.reduceSub, Int.reduceMul, Int.reduceNeg]
    · simp (disch := omega) only [zb_f, ↓zcall_ok, zcall_ok, ↓zjn_ok, zjn_ok, ↓zbl_0, zbl_0, ↓zbl_1, zbl_1, ↓if_pos, if_pos, ↓if_neg, if_neg, ↓zb_ite, zb_ite, ↓zb_itn, zb_itn, ↓gf_6, gf_6, ↓pf_6, pf_6, ↓vc_6, vc_6, if_true, if_false, not_true_eq_false, not_false_eq_true, zu_eq, zu_a, zu_j, ge_iff_le, gt_iff_lt, ne_eq, Int.cast_ofNat_Int, Int.add_zero, Int.zero_add, Int.reduceAdd, Int.reduceSub, Int.reduceMul, Int.reduceNeg]
set_option maxHeartbeats 400000 in
theorem op_sure {μ : zMem} (hG : zG0 μ) (hS : zGS μ) (hP : zGP μ) (hW0 : 0 ≤ μ 21 3) (hW4 : μ 21 3 ≤ 4) (hW : μ 129 9 = μ 21 3) (x c : Int) : ∃ r, fX10_sure 5 x c μ = some (r, μ) ∧ fX11_sure 129 x c μ = some (r, μ) := by
  have hPc := hP
  obtain ⟨⟨p0, p1, p2⟩, p3⟩ := hPc
  have hs := hS.2.1
  rw [eX11_sure]
  unfold fX10_sure
  by_cases hx : 0 ≤ x ∧ x < μ 6 1
  · by_cases hc : 0 ≤ c ∧ c ≤ 1
    · obtain ⟨pl, hpl⟩ : ∃ pl : Int → Int, ∀ p, pl p = zpl (μ (zbP p + 2)) x (μ (zbP p) 1).toNat 0 := ⟨_, fun _ => rfl⟩
      obtain ⟨H, hH⟩ : ∃ H : Int → Int, ∀ p, H p = zb (0 ≤ pl p) := ⟨_, fun _ => rfl⟩
      have hH2 : ∀ p, H p = zb (zhas μ p x) := fun p => by rw [hH, hpl]
      obtain ⟨w, hw⟩ : ∃ w : Int → Int, ∀ p, w p = μ (zbP p) 2 := ⟨_, fun _ => rfl⟩
      obtain ⟨W, hWn⟩ : ∃ W : Nat, μ 21 3 = W := ⟨(μ 21 3).toNat, by omega⟩
      obtain ⟨P, hPn⟩ : ∃ P : Nat, μ 34 3 = P := ⟨(μ 34 3).toNat, by omega⟩
      have hwb : ∀ n : Nat, n ≤ P → 0 ≤ zwb H w n ∧ zwb H w n < 2 ^ W := fun n hn => zwb_in (by omega) n (fun i hi => by
        have := (p3 i (by omega) (by omega)).2.1
        rw [hw]; omega)
      have hB := hwb P (Nat.le_refl _)
      obtain ⟨T, hT⟩ : ∃ T : Int → Int, ∀ i, T i = zand (zshr (zwb H w P) i) 1 := ⟨_, fun _ => rfl⟩
      have hT01 : ∀ n : Nat, n < W → 0 ≤ T n ∧ T n ≤ 1 := fun n hn => by
        rw [hT]
        exact zbit01 (by omega) hB.1 hB.2 hn
      have h2W : (2 : Int) ^ W ≤ 16 := by
        rcases (show W = 0 ∨ W = 1 ∨ W = 2 ∨ W = 3 ∨ W = 4 by omega) with rfl | rfl | rfl | rfl | rfl <;> decide
      have hin : ∀ n : Nat, n ≤ P → 0 ≤ zwb H w n ∧ zwb H w n < 16 := fun n hn => ⟨(hwb n hn).1, Int.lt_of_lt_of_le (hwb n hn).2 h2W⟩
      have hTB : zsm (fun i => zand (zshr (zwb H w P) i) 1) W = zsm T W := by
        congr 1
        funext i
        exact (hT i).symm
      have eB : zcall (fJ6_bitCount_0f7a4 (zwb H w P) μ) (fun v6 u7 => some (v6, u7)) = some (zsm T W, μ) := by
        rw [zbits (by omega) hB.1 hB.2, zcall_ok, hTB]
      clear hB hwb h2W hTB
      have eh := s11_hadBy hG hP x hH2
      have k1 := s11_sure_1 hG (c := c) (by omega) (hW.trans hWn) hT hT01 eh
      have k2 := s11_sure_2 hG (c := c) (w := w) (H := H) (x := x) (P := P) (by omega) (p2.trans hPn) (fun n hn => by rw [hw]; exact (p3 n (by omega) (by omega)).2.1.1)
        (fun n hn => by rw [hH2]; exact s11_has hG (by omega) (by omega) (p3 n (by omega) (by omega)) x) (fun n hn => by rw [hH]; exact zb01) hin k1
      have k3 := s1_writersWith hG (x := x) (H := H) (w := w) (pl := pl) (P := P) (by omega) hPn (fun n hn => (hw n).symm) (fun n hn => by
        have q := (p3 n (by omega) (by omega)).1
        rw [hpl]
        exact s6_placeOf hG (by omega) (by omega) ⟨q.1, q.2.1⟩ x) (fun n hn => hH n) eB
      have k4 := s1_papersWith hG hP x hH2
      refine ⟨if c = 0 then zsm H (μ 34 3).toNat else zsm T W, ?_, ?_⟩
      · by_cases hc0 : c = 0
        · simp (disch := omega) only [s5_has, zb_t, ↓(zcall_of (s10_isChoice c)), ↓(vq_34 k4), ↓zcall_ok, zcall_ok, ↓zjn_ok, zjn_ok, ↓zbl_0, zbl_0, ↓zbl_1, zbl_1, ↓if_pos, if_pos, ↓if_neg, if_neg, ↓zb_ite, zb_ite, ↓zb_itn, zb_itn, ↓gf_5, gf_5, ↓pf_5, pf_5, ↓vc_5, vc_5, ↓gf_6, gf_6, ↓pf_6, pf_6, ↓vc_6, vc_6, if_true, if_false, not_true_eq_false, not_false_eq_true, zu_eq, zu_a, zu_j, ge_iff_le, gt_iff_lt, ne_eq, Int.cast_ofNat_Int, Int.add_zero, Int.zero_add, Int.reduceAdd, Int.reduceSub, Int.reduceMul, Int.reduceNeg, ↓gq_5_0 hG, ↓gq_5_1 hG, ↓gq_5_2 hG, ↓gq_5_3 hG, ↓gq_5_4 hG, ↓gq_5_5 hG, ↓gq_5_6 hG, ↓gq_6_0 hG, g_5_0 hG, g_5_1 hG, g_5_2 hG, g_5_3 hG, g_5_4 hG, g_5_5 hG, g_5_6 hG, g_6_0 hG]
        · simp (disch := omega) only [s5_has, zb_t, ↓(zcall_of (s10_isChoice c)), ↓(vq_34 k3), ↓zcall_ok, zcall_ok, ↓zjn_ok, zjn_ok, ↓zbl_0, zbl_0, ↓zbl_1, zbl_1, ↓if_pos, if_pos, ↓if_neg, if_neg, ↓zb_ite, zb_ite, ↓zb_itn, zb_itn, ↓gf_5, gf_5, ↓pf_5, pf_5, ↓vc_5, vc_5, ↓gf_6, gf_6, ↓pf_6, pf_6, ↓vc_6, vc_6, if_true, if_false, not_true_eq_false, not_false_eq_true, zu_eq, zu_a, zu_j, ge_iff_le, gt_iff_lt, ne_eq, Int.cast_ofNat_Int, Int.add_zero, Int.zero_add, Int.reduceAdd, Int.reduceSub, Int.reduceMul, Int.reduceNeg, ↓gq_5_0 hG, ↓gq_5_1 hG, ↓gq_5_2 hG, ↓gq_5_3 hG, ↓gq_5_4 hG, ↓gq_5_5 hG, ↓gq_5_6 hG, ↓gq_6_0 hG, g_5_0 hG, g_5_1 hG, g_5_2 hG, g_5_3 hG, g_5_4 hG, g_5_5 hG, g_5_6 hG, g_6_0 hG]
      · simp (disch := omega) only [↓(vq_129 (s11_isSaying hS x)), ↓(zcall_of (s11_within c 0 1)), k2, ↓zcall_ok, zcall_ok, ↓zjn_ok, zjn_ok, ↓zbl_0, zbl_0, ↓zbl_1, zbl_1, ↓if_pos, if_pos, ↓if_neg, if_neg, ↓zb_ite, zb_ite, ↓zb_itn, zb_itn, ↓gf_129, gf_129, ↓pf_129, pf_129, ↓vc_129, vc_129, if_true, if_false, not_true_eq_false, not_false_eq_true, zu_eq, zu_a, zu_j, ge_iff_le, gt_iff_lt, ne_eq, Int.cast_ofNat_Int, Int.add_zero, Int.zero_add, Int.reduceAdd, Int.reduceSub, Int.reduceMul, Int.reduceNeg, ↓gq_129_0 hG, ↓gq_129_1 hG, ↓gq_129_2 hG, ↓gq_129_3 hG, ↓gq_129_7 hG, ↓gq_129_10 hG, ↓gq_129_11 hG, ↓gq_129_12 hG, ↓gq_129_13 hG, ↓gq_129_19 hG, ↓gq_129_21 hG, ↓gq_129_22 hG, ↓gq_129_23 hG, ↓gq_129_24 hG, ↓gq_129_25 hG, ↓gq_129_26 hG, ↓gq_129_28 hG, ↓gq_129_29 hG, ↓gq_129_33 hG, ↓gq_129_34 hG, ↓gq_129_35 hG, ↓gq_129_36 hG, g_129_0 hG, g_129_1 hG, g_129_2 hG, g_129_3 hG, g_129_7 hG, g_129_10 hG, g_129_11 hG, g_129_12 hG, g_129_13 hG, g_129_19 hG, g_129_21 hG, g_129_22 hG, g_129_23 hG, g_129_24 hG, g_129_25 hG, g_129_26 hG, g_129_28 hG, g_129_29 hG, g_129_33 hG, g_129_34 hG, g_129_35 hG, g_129_36 hG]
    · refine ⟨-1, ?_, ?_⟩
      · simp (disch := omega) only [s5_has, zb_t, ↓(zcall_of (s10_isChoice c)), ↓zcall_ok, zcall_ok, ↓zjn_ok, zjn_ok, ↓zbl_0, zbl_0, ↓zbl_1, zbl_1, ↓if_pos, if_pos, ↓if_neg, if_neg, ↓zb_ite, zb_ite, ↓zb_itn, zb_itn, ↓gf_5, gf_5, ↓pf_5, pf_5, ↓vc_5, vc_5, ↓gf_6, gf_6, ↓pf_6, pf_6, ↓vc_6, vc_6, if_true, if_false, not_true_eq_false, not_false_eq_true, zu_eq, zu_a, zu_j, ge_iff_le, gt_iff_lt, ne_eq, Int.cast_ofNat_Int, Int.add_zero, Int.zero_add, Int.reduceAdd, Int.reduceSub, Int.reduceMul, Int.reduceNeg, ↓gq_5_0 hG, ↓gq_5_1 hG, ↓gq_5_2 hG, ↓gq_5_3 hG, ↓gq_5_4 hG, ↓gq_5_5 hG, ↓gq_5_6 hG, ↓gq_6_0 hG, g_5_0 hG, g_5_1 hG, g_5_2 hG, g_5_3 hG, g_5_4 hG, g_5_5 hG, g_5_6 hG, g_6_0 hG]
      · simp (disch := omega) only [↓(vq_129 (s11_isSaying hS x)), ↓(zcall_of (s11_within c 0 1)), ↓zcall_ok, zcall_ok, ↓zjn_ok, zjn_ok, ↓zbl_0, zbl_0, ↓zbl_1, zbl_1, ↓if_pos, if_pos, ↓if_neg, if_neg, ↓zb_ite, zb_ite, ↓zb_itn, zb_itn, ↓gf_129, gf_129, ↓pf_129, pf_129, ↓vc_129, vc_129, if_true, if_false, not_true_eq_false, not_false_eq_true, zu_eq, zu_a, zu_j, ge_iff_le, gt_iff_lt, ne_eq, Int.cast_ofNat_Int, Int.add_zero, Int.zero_add, Int.reduceAdd, Int.reduceSub, Int.reduceMul, Int.reduceNeg, ↓gq_129_0 hG, ↓gq_129_1 hG, ↓gq_129_2 hG, ↓gq_129_3 hG, ↓gq_129_7 hG, ↓gq_129_10 hG, ↓gq_129_11 hG, ↓gq_129_12 hG, ↓gq_129_13 hG, ↓gq_129_19 hG, ↓gq_129_21 hG, ↓gq_129_22 hG, ↓gq_129_23 hG, ↓gq_129_24 hG, ↓gq_129_25 hG, ↓gq_129_26 hG, ↓gq_129_28 hG, ↓gq_129_29 hG, ↓gq_129_33 hG, ↓gq_129_34 hG, ↓gq_129_35 hG, ↓gq_129_36 hG, g_129_0 hG, g_129_1 hG, g_129_2 hG, g_129_3 hG, g_129_7 hG, g_129_10 hG, g_129_11 hG, g_129_12 hG, g_129_13 hG, g_129_19 hG, g_129_21 hG, g_129_22 hG, g_129_23 hG, g_129_24 hG, g_129_25 hG, g_129_26 hG, g_129_28 hG, g_129_29 hG, g_129_33 hG, g_129_34 hG, g_129_35 hG, g_129_36 hG]
  · refine ⟨-1, ?_, ?_⟩
    · simp (disch := omega) only [s5_has, zb_f, ↓zcall_ok, zcall_ok, ↓zjn_ok, zjn_ok, ↓zbl_0, zbl_0, ↓zbl_1, zbl_1, ↓if_pos, if_pos, ↓if_neg, if_neg, ↓zb_ite, zb_ite, ↓zb_itn, zb_itn, ↓gf_5, gf_5, ↓pf_5, pf_5, ↓vc_5, vc_5, ↓gf_6, gf_6, ↓pf_6, pf_6, ↓vc_6, vc_6, if_true, if_false, not_true_eq_false, not_false_eq_true, zu_eq, zu_a, zu_j, ge_iff_le, gt_iff_lt, ne_eq, Int.cast_ofNat_Int, Int.add_zero, Int.zero_add, Int.reduceAdd, Int.reduceSub, Int.reduceMul, Int.reduceNeg, ↓gq_5_0 hG, ↓gq_5_1 hG, ↓gq_5_2 hG, ↓gq_5_3 hG, ↓gq_5_4 hG, ↓gq_5_5 hG, ↓gq_5_6 hG, ↓gq_6_0 hG, g_5_0 hG, g_5_1 hG, g_5_2 hG, g_5_3 hG, g_5_4 hG, g_5_5 hG, g_5_6 hG, g_6_0 hG]
    · simp (disch := omega) only [↓(vq_129 (s11_isSaying hS x)), ↓zcall_ok, zcall_ok, ↓zjn_ok, zjn_ok, ↓zbl_0, zbl_0, ↓zbl_1, zbl_1, ↓if_pos, if_pos, ↓if_neg, if_neg, ↓zb_ite, zb_ite, ↓zb_itn, zb_itn, ↓gf_129, gf_129, ↓pf_129, pf_129, ↓vc_129, vc_129, if_true, if_false, not_true_eq_false, not_false_eq_true, zu_eq, zu_a, zu_j, ge_iff_le, gt_iff_lt, ne_eq, Int.cast_ofNat_Int, Int.add_zero, Int.zero_add, Int.reduceAdd, Int.reduceSub, Int.reduceMul, Int.reduceNeg, ↓gq_129_0 hG, ↓gq_129_1 hG, ↓gq_129_2 hG, ↓gq_129_3 hG, ↓gq_129_7 hG, ↓gq_129_10 hG, ↓gq_129_11 hG, ↓gq_129_12 hG, ↓gq_129_13 hG, ↓gq_129_19 hG, ↓gq_129_21 hG, ↓gq_129_22 hG, ↓gq_129_23 hG, ↓gq_129_24 hG, ↓gq_129_25 hG, ↓gq_129_26 hG, ↓gq_129_28 hG, ↓gq_129_29 hG, ↓gq_129_33 hG, ↓gq_129_34 hG, ↓gq_129_35 hG, ↓gq_129_36 hG, g_129_0 hG, g_129_1 hG, g_129_2 hG, g_129_3 hG, g_129_7 hG, g_129_10 hG, g_129_11 hG, g_129_12 hG, g_129_13 hG, g_129_19 hG, g_129_21 hG, g_129_22 hG, g_129_23 hG, g_129_24 hG, g_129_25 hG, g_129_26 hG, g_129_28 hG, g_129_29 hG, g_129_33 hG, g_129_34 hG, g_129_35 hG, g_129_36 hG]
