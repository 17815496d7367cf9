/-! ===== order ===== -/
set_option maxHeartbeats 400000 in
theorem zuc {n : Nat} : ((n + 1 : Nat) : Int) = (n : Int) + 1 := by omega
def zun (b : Nat → Nat) : Nat → Nat
  | 0 => 0
  | n + 1 => zun b n ||| b n
set_option maxHeartbeats 400000 in
theorem zun_lt {b : Nat → Nat} : ∀ s, (∀ n, n < s → b n < 65536) → zun b s < 65536
  | 0, _ => by
    show (0 : Nat) < 65536
    decide
  | s + 1, h => Nat.or_lt_two_pow (n := 16) (zun_lt s (fun n hn => h n (by omega))) (h s (by omega))
set_option maxHeartbeats 400000 in
theorem zun_bit {b : Nat → Nat} {j : Nat} : ∀ s, zbi (zun b s) j = true ↔ ∃ n, n < s ∧ zbi (b n) j = true
  | 0 => by
    unfold zbi zun
    rw [Nat.zero_testBit]
    exact ⟨fun h => (by cases h), fun ⟨n, h, _⟩ => (by omega)⟩
  | s + 1 => by
    have ih := zun_bit (b := b) (j := j) s
    have e : zbi (zun b (s + 1)) j = (zbi (zun b s) j || zbi (b s) j) := Nat.testBit_or _ _ _
    rw [e, Bool.or_eq_true, ih]
    constructor
    · rintro (⟨n, h1, h2⟩ | h)
      · exact ⟨n, by omega, h2⟩
      · exact ⟨s, by omega, h⟩
    · rintro ⟨n, h1, h2⟩
      by_cases hn : n = s
      · subst hn; exact Or.inr h2
      · exact Or.inl ⟨n, by omega, h2⟩
set_option maxHeartbeats 400000 in
theorem zbi_2 {k j : Nat} : zbi (2 ^ k) j = true ↔ k = j := by
  unfold zbi
  rw [Nat.testBit_two_pow]
  simp
set_option maxHeartbeats 400000 in
theorem zob_un {f : Int → Int} {F : Nat → Nat} : ∀ s : Nat, (∀ n : Nat, n < s → f n = F n ∧ F n < 16) → zob f s = ((zun (fun n => 2 ^ F n) s : Nat) : Int)
  | 0, _ => rfl
  | s + 1, h => by
    have h1 := zob_un (f := f) (F := F) s (fun n hn => h n (by omega))
    have h2 := h s (by omega)
    have h3 : zun (fun n => 2 ^ F n) s < 65536 := zun_lt s (fun n hn => Nat.pow_lt_pow_right (by decide) (h n (by omega)).2)
    have h4 : 2 ^ F s < 65536 := Nat.pow_lt_pow_right (n := 16) (by decide) h2.2
    rw [zob_S, h1, h2.1, zshl_nat (by omega), zor_nat (by omega) (by omega)]
    rfl
set_option maxHeartbeats 400000 in
theorem zbi_t {a k : Nat} (ha : a < 2147483648) (hk : k < 31) (h : zbi a k = true) : zand (zshr (a : Int) (k : Int)) 1 = 1 := by
  rw [zbi_get ha hk, if_pos h]
set_option maxHeartbeats 400000 in
theorem zbi_f {a k : Nat} (ha : a < 2147483648) (hk : k < 31) (h : zbi a k = false) : zand (zshr (a : Int) (k : Int)) 1 = 0 := by
  rw [zbi_get ha hk, if_neg (by rw [h]; decide)]
set_option maxHeartbeats 400000 in
theorem zpl_no {f : Int → Int} {x : Int} : ∀ (n : Nat) (i : Int), 0 ≤ i → zpl f x n i = -1 → ∀ k, i ≤ k → k < i + n → f k ≠ x
  | 0, i, _, _, k, h1, h2 => by omega
  | n + 1, i, hi, h, k, h1, h2 => by
    unfold zpl at h
    by_cases e : f i = x
    · rw [if_pos e] at h
      omega
    · rw [if_neg e] at h
      by_cases hk : k = i
      · rw [hk]; exact e
      · exact zpl_no n (i + 1) (by omega) h k (by omega) (by omega)
set_option maxHeartbeats 400000 in
theorem zpl_S {f pl : Int → Int} {s : Nat} (h : ∀ x, pl x = zpl f x s 0) : zpS f pl s := fun x => by
  rw [h]
  rcases zpl_in (f := f) (x := x) s 0 with q | ⟨q1, q2, q3⟩
  · exact Or.inl ⟨q, fun k k0 k1 => zpl_no s 0 (by omega) q k k0 (by omega)⟩
  · exact Or.inr ⟨q1, by omega, q3⟩
set_option maxHeartbeats 400000 in
theorem zsw_in (f : Int → Int) : ∀ n, zw32 (zsw f n) = zsw f n
  | 0 => rfl
  | n + 1 => by rw [zsw_S, zwi]
set_option maxHeartbeats 400000 in
theorem zsw_v {f : Int → Int} {n : Nat} {v : Int} (h : f n = v) : zsw f (n + 1) = zw32 (zsw f n + v) := by rw [zsw_S, h]
set_option maxHeartbeats 400000 in
theorem zsw_0 {f : Int → Int} {n : Nat} (h : f n = 0) : zsw f (n + 1) = zsw f n := by rw [zsw_S, h, Int.add_zero, zsw_in]
set_option maxHeartbeats 400000 in
theorem s1_countLeads {μ : zMem} (hG : zG0 μ) {P N W : Int} (P0 : 0 ≤ P) (hP10 : P ≤ 10) (hPn : μ 34 3 = P) (hN : N ≤ 16) (hP : ∀ p : Int, 0 ≤ p → p < P → zPp μ N W p) {pl : Int → Int → Int} (hpl : ∀ p x, pl p x = zpl (μ (zbP p + 2)) x (μ (zbP p) 1).toNat 0) {G : Int → Int → Int → Int} (hGe : ∀ a b p, G a b p = zsg (pl p a) (pl p b)) :
    fX1_countLeads 34 μ = some (0, zlm μ (fun a b => zsw (G a b) P.toNat)) := by
  have k2 : lX1_countLeads_2 34 0 (zlm μ (fun a b => zsw (G a b) 0)) = some (0, zlm μ (fun a b => zsw (G a b) P.toNat)) := by
    unfold lX1_countLeads_2
    refine zle1 (fun n => (n : Int)) (fun n => zlm μ (fun a b => zsw (G a b) n)) rfl rfl P.toNat (by omega) (fun k n hn => ?_) (fun k => ?_)
    · obtain ⟨⟨a1, a2, a3⟩, -, hE, hd⟩ := hP n (by omega) (by omega)
      obtain ⟨s, hs⟩ : ∃ s : Nat, μ (zbP n) 1 = s := ⟨(μ (zbP n) 1).toNat, by omega⟩
      have hpS : zpS (μ (zbP n + 2)) (pl n) s := zpl_S (fun x => by rw [hpl, hs]; rfl)
      have e := s1_countLeadsOf hG (p := n) (by omega) (by omega) (f := μ (zbP n + 2)) (pl := pl n) hs (by omega) (fun _ => rfl) (fun k k0 k1 => by have := (hE k k0 (by omega)).2.2.2.2.1; omega) (fun k l k0 k1 k2 => hd k l k0 k1 (by omega)) hpS (g := fun a b => zsw (G a b) n) (fun a b => zsw_in _ _)
      have e2 : (fun a b => zw32 (zsw (G a b) n + zsg (pl n a) (pl n b))) = fun a b => zsw (G a b) (n + 1) := by
        funext a b
        rw [zsw_S, hGe]
      rw [e2] at e
      have hn2 : ¬ (n : Int) ≥ P := by omega
      clear hE hd hpS e2 hP
      simp (disch := omega) only [zlm_o, g_35 hG, ↓(vq_34 e), zupn, hPn, ↓zcall_ok, zcall_ok, ↓zjn_ok, zjn_ok, ↓zbl_0, zbl_0, ↓zbl_1, zbl_1, ↓if_pos, if_pos, ↓if_neg, if_neg, ↓zb_ite, zb_ite, ↓zb_itn, zb_itn, ↓gf_34, gf_34, ↓pf_34, pf_34, ↓vc_34, vc_34, ↓al_35, al_35, ↓ln_35, ln_35, if_true, if_false, not_true_eq_false, not_false_eq_true, zu_eq, zu_a, zu_j, ge_iff_le, gt_iff_lt, ne_eq, Int.cast_ofNat_Int, Int.add_zero, Int.zero_add, Int.reduceAdd, Int.reduceSub, Int.reduceMul, Int.reduceNeg, ↓gq_34_0 hG, ↓gq_34_1 hG, ↓gq_34_2 hG, g_34_0 hG, g_34_1 hG, g_34_2 hG, g_35_0 hG, g_35_1 hG, g_35_2 hG, g_35_3 hG, g_35_4 hG, g_35_5 hG, g_35_6 hG, g_35_7 hG, g_35_8 hG, g_35_9 hG]
    · have hn2 : (P.toNat : Int) ≥ P := by omega
      simp (disch := omega) only [zlm_o, hPn, ↓zcall_ok, zcall_ok, ↓zjn_ok, zjn_ok, ↓zbl_0, zbl_0, ↓zbl_1, zbl_1, ↓if_pos, if_pos, ↓if_neg, if_neg, ↓zb_ite, zb_ite, ↓zb_itn, zb_itn, ↓gf_34, gf_34, ↓pf_34, pf_34, ↓vc_34, vc_34, ↓al_35, al_35, ↓ln_35, ln_35, if_true, if_false, not_true_eq_false, not_false_eq_true, zu_eq, zu_a, zu_j, ge_iff_le, gt_iff_lt, ne_eq, Int.cast_ofNat_Int, Int.add_zero, Int.zero_add, Int.reduceAdd, Int.reduceSub, Int.reduceMul, Int.reduceNeg, ↓gq_34_0 hG, ↓gq_34_1 hG, ↓gq_34_2 hG, g_34_0 hG, g_34_1 hG, g_34_2 hG, g_35_0 hG, g_35_1 hG, g_35_2 hG, g_35_3 hG, g_35_4 hG, g_35_5 hG, g_35_6 hG, g_35_7 hG, g_35_8 hG, g_35_9 hG]
  have k3 : lX1_countLeads_3 34 36 16 0 μ = some (0, zlm μ (fun a b => zsw (G a b) P.toNat)) := by
    unfold lX1_countLeads_3
    refine zle1 (fun n => (n : Int)) (fun n => zlm μ (fun x y => if x < n then 0 else μ (37 + x) y)) rfl ?_ 16 (by omega) (fun k n hn => ?_) (fun k => ?_)
    · exact (zlm_congr (fun a j a0 a1 j0 j1 => if_neg (by omega))).trans zlm_self
    · have e := s_cl1 (μ := μ) (g := fun x y => if x < (n : Int) then 0 else μ (37 + x) y) (k := k) (r := n) (by omega) (by omega)
      have e2 : zlm μ (fun x y => if x = (n : Int) then 0 else if x < (n : Int) then 0 else μ (37 + x) y) = zlm μ (fun x y => if x < ((n + 1 : Nat) : Int) then 0 else μ (37 + x) y) := zlm_congr (fun a j a0 a1 j0 j1 => by
        by_cases c : a = (n : Int)
        · rw [if_pos c, if_pos (by omega)]
        · rw [if_neg c]
          by_cases c2 : a < (n : Int)
          · rw [if_pos c2, if_pos (by omega)]
          · rw [if_neg c2, if_neg (by omega)])
      rw [← e2]
      simp (disch := omega) only [zlm_o, g_36 hG, e, zupn, ↓zcall_ok, zcall_ok, ↓zjn_ok, zjn_ok, ↓zbl_0, zbl_0, ↓zbl_1, zbl_1, ↓if_pos, if_pos, ↓if_neg, if_neg, ↓zb_ite, zb_ite, ↓zb_itn, zb_itn, ↓gf_34, gf_34, ↓pf_34, pf_34, ↓vc_34, vc_34, ↓al_36, al_36, ↓ln_36, ln_36, if_true, if_false, not_true_eq_false, not_false_eq_true, zu_eq, zu_a, zu_j, ge_iff_le, gt_iff_lt, ne_eq, Int.cast_ofNat_Int, Int.add_zero, Int.zero_add, Int.reduceAdd, Int.reduceSub, Int.reduceMul, Int.reduceNeg, ↓gq_34_0 hG, ↓gq_34_1 hG, ↓gq_34_2 hG, g_34_0 hG, g_34_1 hG, g_34_2 hG, g_36_0 hG, g_36_1 hG, g_36_2 hG, g_36_3 hG, g_36_4 hG, g_36_5 hG, g_36_6 hG, g_36_7 hG, g_36_8 hG, g_36_9 hG, g_36_10 hG, g_36_11 hG, g_36_12 hG, g_36_13 hG, g_36_14 hG, g_36_15 hG]
    · have e2 : zlm μ (fun x y => if x < ((16 : Nat) : Int) then 0 else μ (37 + x) y) = zlm μ (fun a b => zsw (G a b) 0) := zlm_congr (fun a j a0 a1 j0 j1 => by rw [if_pos (by omega)]; rfl)
      rw [e2]
      simp (disch := omega) only [k2, ↓zcall_ok, zcall_ok, ↓zjn_ok, zjn_ok, ↓zbl_0, zbl_0, ↓zbl_1, zbl_1, ↓if_pos, if_pos, ↓if_neg, if_neg, ↓zb_ite, zb_ite, ↓zb_itn, zb_itn, ↓gf_34, gf_34, ↓pf_34, pf_34, ↓vc_34, vc_34, ↓al_36, al_36, ↓ln_36, ln_36, if_true, if_false, not_true_eq_false, not_false_eq_true, zu_eq, zu_a, zu_j, ge_iff_le, gt_iff_lt, ne_eq, Int.cast_ofNat_Int, Int.add_zero, Int.zero_add, Int.reduceAdd, Int.reduceSub, Int.reduceMul, Int.reduceNeg, ↓gq_34_0 hG, ↓gq_34_1 hG, ↓gq_34_2 hG, g_34_0 hG, g_34_1 hG, g_34_2 hG, g_36_0 hG, g_36_1 hG, g_36_2 hG, g_36_3 hG, g_36_4 hG, g_36_5 hG, g_36_6 hG, g_36_7 hG, g_36_8 hG, g_36_9 hG, g_36_10 hG, g_36_11 hG, g_36_12 hG, g_36_13 hG, g_36_14 hG, g_36_15 hG]
  have hl : ∀ K : Int → zRs, zlen 26 36 K = K 16 := fun K => zlen_ok (n := 16) rfl (by decide)
  rw [eX1_countLeads]
  simp (disch := omega) only [hl, k3, ↓zcall_ok, zcall_ok, ↓zjn_ok, zjn_ok, ↓zbl_0, zbl_0, ↓zbl_1, zbl_1, ↓if_pos, if_pos, ↓if_neg, if_neg, ↓zb_ite, zb_ite, ↓zb_itn, zb_itn, ↓gf_34, gf_34, ↓pf_34, pf_34, ↓vc_34, vc_34, if_true, if_false, not_true_eq_false, not_false_eq_true, zu_eq, zu_a, zu_j, ge_iff_le, gt_iff_lt, ne_eq, Int.cast_ofNat_Int, Int.add_zero, Int.zero_add, Int.reduceAdd, Int.reduceSub, Int.reduceMul, Int.reduceNeg, ↓gq_34_0 hG, ↓gq_34_1 hG, ↓gq_34_2 hG, g_34_0 hG, g_34_1 hG, g_34_2 hG]
set_option maxHeartbeats 400000 in
theorem s1_beatenBy {μ : zMem} (hG : zG0 μ) {g : Int → Int → Int} {a : Int} (a0 : 0 ≤ a) (a1 : a < 16) {L : Nat} (hL : L < 65536) {h : Nat → Int} (hh : ∀ b : Nat, h b = if zbi L b = true ∧ 0 < g a b then 1 else 0) : fX1_beatenBy 34 a L (zlm μ g) = some (zcn h 16, zlm μ g) := by
  rw [eX1_beatenBy]
  unfold lX1_beatenBy_1
  have h01 : ∀ n, h n = 0 ∨ h n = 1 := fun n => by rw [hh]; split <;> simp
  refine zle2 (zcn h) (fun n => (n : Int)) (fun _ => zlm μ g) rfl rfl rfl 16 (by omega) (fun k n hn => ?_) (fun k => ?_)
  · have hi := zcn_in h01 n
    cases hb : zbi L n with
    | false =>
      have e : h n = 0 := by rw [hh, if_neg (by rw [hb]; exact fun q => by cases q.1)]
      clear hh h01
      simp (disch := omega) only [zbi_f (a := L) (k := n) (by omega) (by omega) hb, zupn, zcn_S, e, Int.add_zero, ↓zcall_ok, zcall_ok, ↓zjn_ok, zjn_ok, ↓zbl_0, zbl_0, ↓zbl_1, zbl_1, ↓if_pos, if_pos, ↓if_neg, if_neg, ↓zb_ite, zb_ite, ↓zb_itn, zb_itn, ↓gf_34, gf_34, ↓pf_34, pf_34, ↓vc_34, vc_34, ↓al_36, al_36, ↓ln_36, ln_36, if_true, if_false, not_true_eq_false, not_false_eq_true, zu_eq, zu_a, zu_j, ge_iff_le, gt_iff_lt, ne_eq, Int.cast_ofNat_Int, Int.add_zero, Int.zero_add, Int.reduceAdd, Int.reduceSub, Int.reduceMul, Int.reduceNeg, ↓gq_34_0 hG, ↓gq_34_1 hG, ↓gq_34_2 hG, g_34_0 hG, g_34_1 hG, g_34_2 hG, g_36_0 hG, g_36_1 hG, g_36_2 hG, g_36_3 hG, g_36_4 hG, g_36_5 hG, g_36_6 hG, g_36_7 hG, g_36_8 hG, g_36_9 hG, g_36_10 hG, g_36_11 hG, g_36_12 hG, g_36_13 hG, g_36_14 hG, g_36_15 hG]
    | true =>
      by_cases hg : 0 < g a n
      · have e : h n = 1 := by rw [hh, if_pos ⟨hb, hg⟩]
        clear hh h01
        simp (disch := omega) only [zbi_t (a := L) (k := n) (by omega) (by omega) hb, zlm_o, g_36 hG, al37, zlm_i, zupn, zcn_S, e, zuc, zw32_id, ↓zcall_ok, zcall_ok, ↓zjn_ok, zjn_ok, ↓zbl_0, zbl_0, ↓zbl_1, zbl_1, ↓if_pos, if_pos, ↓if_neg, if_neg, ↓zb_ite, zb_ite, ↓zb_itn, zb_itn, ↓gf_34, gf_34, ↓pf_34, pf_34, ↓vc_34, vc_34, ↓al_36, al_36, ↓ln_36, ln_36, if_true, if_false, not_true_eq_false, not_false_eq_true, zu_eq, zu_a, zu_j, ge_iff_le, gt_iff_lt, ne_eq, Int.cast_ofNat_Int, Int.add_zero, Int.zero_add, Int.reduceAdd, Int.reduceSub, Int.reduceMul, Int.reduceNeg, ↓gq_34_0 hG, ↓gq_34_1 hG, ↓gq_34_2 hG, g_34_0 hG, g_34_1 hG, g_34_2 hG, g_36_0 hG, g_36_1 hG, g_36_2 hG, g_36_3 hG, g_36_4 hG, g_36_5 hG, g_36_6 hG, g_36_7 hG, g_36_8 hG, g_36_9 hG, g_36_10 hG, g_36_11 hG, g_36_12 hG, g_36_13 hG, g_36_14 hG, g_36_15 hG]
      · have e : h n = 0 := by rw [hh, if_neg (fun q => hg q.2)]
        clear hh h01
        simp (disch := omega) only [zbi_t (a := L) (k := n) (by omega) (by omega) hb, zlm_o, g_36 hG, al37, zlm_i, zupn, zcn_S, e, Int.add_zero, ↓zcall_ok, zcall_ok, ↓zjn_ok, zjn_ok, ↓zbl_0, zbl_0, ↓zbl_1, zbl_1, ↓if_pos, if_pos, ↓if_neg, if_neg, ↓zb_ite, zb_ite, ↓zb_itn, zb_itn, ↓gf_34, gf_34, ↓pf_34, pf_34, ↓vc_34, vc_34, ↓al_36, al_36, ↓ln_36, ln_36, if_true, if_false, not_true_eq_false, not_false_eq_true, zu_eq, zu_a, zu_j, ge_iff_le, gt_iff_lt, ne_eq, Int.cast_ofNat_Int, Int.add_zero, Int.zero_add, Int.reduceAdd, Int.reduceSub, Int.reduceMul, Int.reduceNeg, ↓gq_34_0 hG, ↓gq_34_1 hG, ↓gq_34_2 hG, g_34_0 hG, g_34_1 hG, g_34_2 hG, g_36_0 hG, g_36_1 hG, g_36_2 hG, g_36_3 hG, g_36_4 hG, g_36_5 hG, g_36_6 hG, g_36_7 hG, g_36_8 hG, g_36_9 hG, g_36_10 hG, g_36_11 hG, g_36_12 hG, g_36_13 hG, g_36_14 hG, g_36_15 hG]
  · simp (disch := omega) only [↓zcall_ok, zcall_ok, ↓zjn_ok, zjn_ok, ↓zbl_0, zbl_0, ↓zbl_1, zbl_1, ↓if_pos, if_pos, ↓if_neg, if_neg, ↓zb_ite, zb_ite, ↓zb_itn, zb_itn, ↓gf_34, gf_34, ↓pf_34, pf_34, ↓vc_34, vc_34, ↓al_36, al_36, ↓ln_36, ln_36, if_true, if_false, not_true_eq_false, not_false_eq_true, zu_eq, zu_a, zu_j, ge_iff_le, gt_iff_lt, ne_eq, Int.cast_ofNat_Int, Int.add_zero, Int.zero_add, Int.reduceAdd, Int.reduceSub, Int.reduceMul, Int.reduceNeg, ↓gq_34_0 hG, ↓gq_34_1 hG, ↓gq_34_2 hG, g_34_0 hG, g_34_1 hG, g_34_2 hG, g_36_0 hG, g_36_1 hG, g_36_2 hG, g_36_3 hG, g_36_4 hG, g_36_5 hG, g_36_6 hG, g_36_7 hG, g_36_8 hG, g_36_9 hG, g_36_10 hG, g_36_11 hG, g_36_12 hG, g_36_13 hG, g_36_14 hG, g_36_15 hG]
/-- the best, and the most, from the first on -/
def zgm (c : Nat → Int) : Nat → Int
  | 0 => -1
  | n + 1 => if c n ≤ zgm c n then zgm c n else c n
def zgb (c : Nat → Int) : Nat → Int
  | 0 => 0
  | n + 1 => if c n ≤ zgm c n then zgb c n else n
set_option maxHeartbeats 400000 in
theorem zgm_le {c : Nat → Int} {n : Nat} (h : c n ≤ zgm c n) : zgm c (n + 1) = zgm c n ∧ zgb c (n + 1) = zgb c n := ⟨if_pos h, if_pos h⟩
set_option maxHeartbeats 400000 in
theorem zgm_gt {c : Nat → Int} {n : Nat} (h : ¬ c n ≤ zgm c n) : zgm c (n + 1) = c n ∧ zgb c (n + 1) = n := ⟨if_neg h, if_neg h⟩
set_option maxHeartbeats 400000 in
theorem zgm_all {c : Nat → Int} : ∀ n, -1 ≤ zgm c n ∧ ∀ m, m < n → c m ≤ zgm c n
  | 0 => ⟨Int.le_refl _, fun m h => by omega⟩
  | n + 1 => by
    have ih := zgm_all (c := c) n
    by_cases h : c n ≤ zgm c n
    · rw [(zgm_le h).1]
      refine ⟨ih.1, fun m hm => ?_⟩
      by_cases e : m = n
      · rw [e]; exact h
      · exact ih.2 m (by omega)
    · rw [(zgm_gt h).1]
      refine ⟨by omega, fun m hm => ?_⟩
      by_cases e : m = n
      · rw [e]; exact Int.le_refl _
      · have := ih.2 m (by omega); omega
set_option maxHeartbeats 400000 in
theorem s1_foremost {ν : zMem} {L : Nat} (hL : L < 65536) {c : Nat → Int} (hc1 : ∀ a : Nat, a < 16 → zbi L a = true → fX1_beatenBy 34 a L ν = some (c a, ν)) (hc0 : ∀ a : Nat, a < 16 → zbi L a = false → c a = -1) : fX1_foremost 34 L ν = some (zgb c 16, ν) := by
  rw [eX1_foremost]
  unfold lX1_foremost_1
  refine zle3 (zgb c) (zgm c) (fun n => (n : Int)) (fun _ => ν) rfl rfl rfl rfl 16 (by omega) (fun k n hn => ?_) (fun k => ?_)
  · cases hb : zbi L n with
    | false =>
      have e := hc0 n hn hb
      have e2 := (zgm_all (c := c) n).1
      have e3 := zgm_le (c := c) (n := n) (by omega)
      rw [e3.1, e3.2]
      clear hc0 hc1 e3 e
      simp (disch := omega) only [zbi_f (a := L) (k := n) (by omega) (by omega) hb, zupn, ↓zcall_ok, zcall_ok, ↓zjn_ok, zjn_ok, ↓zbl_0, zbl_0, ↓zbl_1, zbl_1, ↓if_pos, if_pos, ↓if_neg, if_neg, ↓zb_ite, zb_ite, ↓zb_itn, zb_itn, ↓gf_34, gf_34, ↓pf_34, pf_34, ↓vc_34, vc_34, if_true, if_false, not_true_eq_false, not_false_eq_true, zu_eq, zu_a, zu_j, ge_iff_le, gt_iff_lt, ne_eq, Int.cast_ofNat_Int, Int.add_zero, Int.zero_add, Int.reduceAdd, Int.reduceSub, Int.reduceMul, Int.reduceNeg]
    | true =>
      have e := hc1 n hn hb
      by_cases h : c n ≤ zgm c n
      · have e3 := zgm_le h
        rw [e3.1, e3.2]
        clear hc0 hc1 e3
        simp (disch := omega) only [zbi_t (a := L) (k := n) (by omega) (by omega) hb, ↓(vq_34 e), zupn, ↓zcall_ok, zcall_ok, ↓zjn_ok, zjn_ok, ↓zbl_0, zbl_0, ↓zbl_1, zbl_1, ↓if_pos, if_pos, ↓if_neg, if_neg, ↓zb_ite, zb_ite, ↓zb_itn, zb_itn, ↓gf_34, gf_34, ↓pf_34, pf_34, ↓vc_34, vc_34, if_true, if_false, not_true_eq_false, not_false_eq_true, zu_eq, zu_a, zu_j, ge_iff_le, gt_iff_lt, ne_eq, Int.cast_ofNat_Int, Int.add_zero, Int.zero_add, Int.reduceAdd, Int.reduceSub, Int.reduceMul, Int.reduceNeg]
      · have e3 := zgm_gt h
        rw [e3.1, e3.2]
        clear hc0 hc1 e3
        simp (disch := omega) only [zbi_t (a := L) (k := n) (by omega) (by omega) hb, ↓(vq_34 e), zupn, ↓zcall_ok, zcall_ok, ↓zjn_ok, zjn_ok, ↓zbl_0, zbl_0, ↓zbl_1, zbl_1, ↓if_pos, if_pos, ↓if_neg, if_neg, ↓zb_ite, zb_ite, ↓zb_itn, zb_itn, ↓gf_34, gf_34, ↓pf_34, pf_34, ↓vc_34, vc_34, if_true, if_false, not_true_eq_false, not_false_eq_true, zu_eq, zu_a, zu_j, ge_iff_le, gt_iff_lt, ne_eq, Int.cast_ofNat_Int, Int.add_zero, Int.zero_add, Int.reduceAdd, Int.reduceSub, Int.reduceMul, Int.reduceNeg]
  · simp (disch := omega) only [↓zcall_ok, zcall_ok, ↓zjn_ok, zjn_ok, ↓zbl_0, zbl_0, ↓zbl_1, zbl_1, ↓if_pos, if_pos, ↓if_neg, if_neg, ↓zb_ite, zb_ite, ↓zb_itn, zb_itn, ↓gf_34, gf_34, ↓pf_34, pf_34, ↓vc_34, vc_34, if_true, if_false, not_true_eq_false, not_false_eq_true, zu_eq, zu_a, zu_j, ge_iff_le, gt_iff_lt, ne_eq, Int.cast_ofNat_Int, Int.add_zero, Int.zero_add, Int.reduceAdd, Int.reduceSub, Int.reduceMul, Int.reduceNeg]
set_option maxHeartbeats 400000 in
theorem s11_beats {μ : zMem} (hG : zG0 μ) {P a b : Int} (P0 : 0 ≤ P) (hP10 : P ≤ 10) (p2 : μ 129 20 = P) {pa pb F : Int → Int} (ha : ∀ n : Nat, n < P.toNat → fX11_placeOf 129 n a μ = some (pa n, μ)) (hb : ∀ n : Nat, n < P.toNat → fX11_placeOf 129 n b μ = some (pb n, μ))
    (ka : ∀ n : Nat, n < P.toNat → fX11_has 129 n a μ = some (zb (0 ≤ pa n), μ)) (kb : ∀ n : Nat, n < P.toNat → fX11_has 129 n b μ = some (zb (0 ≤ pb n), μ)) (hne : ∀ n : Nat, n < P.toNat → 0 ≤ pa n → pa n ≠ pb n) (hF : ∀ n, F n = zsg (pa n) (pb n)) :
    fX11_beats 129 a b μ = some (zb (0 < zsw F P.toNat), μ) := by
  rw [eX11_beats]
  unfold lX11_beats_1
  refine zlA (zsw F) rfl P.toNat (by omega) (fun k n hn => ?_) (fun k => ?_)
  · have e1 := ha n hn
    have e2 := hb n hn
    have e3 := ka n hn
    have e4 := kb n hn
    have e5 := hne n hn
    have e6 := hF n
    have hn2 : (n : Int) < P := by omega
    clear ha hb ka kb hne hF
    by_cases c1 : 0 ≤ pa n
    · by_cases c2 : 0 ≤ pb n
      · by_cases c3 : pa n < pb n
        · have e7 : F n = 1 := by rw [e6, zsg, if_pos ⟨c1, c3⟩]
          clear e6
          simp (disch := omega) only [p2, ↓(vq_129 e1), ↓(vq_129 e2), ↓(vq_129 e3), ↓(vq_129 e4), zupn, zsw_v e7, ↓zcall_ok, zcall_ok, ↓zjn_ok, zjn_ok, ↓zbl_0, zbl_0, ↓zbl_1, zbl_1, ↓if_pos, if_pos, ↓if_neg, if_neg, ↓zb_ite, zb_ite, ↓zb_itn, zb_itn, ↓gf_129, gf_129, ↓pf_129, pf_129, ↓vc_129, vc_129, if_true, if_false, not_true_eq_false, not_false_eq_true, zu_eq, zu_a, zu_j, ge_iff_le, gt_iff_lt, ne_eq, Int.cast_ofNat_Int, Int.add_zero, Int.zero_add, Int.reduceAdd, Int.reduceSub, Int.reduceMul, Int.reduceNeg, ↓gq_129_0 hG, ↓gq_129_1 hG, ↓gq_129_2 hG, ↓gq_129_3 hG, ↓gq_129_7 hG, ↓gq_129_10 hG, ↓gq_129_11 hG, ↓gq_129_12 hG, ↓gq_129_13 hG, ↓gq_129_19 hG, ↓gq_129_21 hG, ↓gq_129_22 hG, ↓gq_129_23 hG, ↓gq_129_24 hG, ↓gq_129_25 hG, ↓gq_129_26 hG, ↓gq_129_28 hG, ↓gq_129_29 hG, ↓gq_129_33 hG, ↓gq_129_34 hG, ↓gq_129_35 hG, ↓gq_129_36 hG, g_129_0 hG, g_129_1 hG, g_129_2 hG, g_129_3 hG, g_129_7 hG, g_129_10 hG, g_129_11 hG, g_129_12 hG, g_129_13 hG, g_129_19 hG, g_129_21 hG, g_129_22 hG, g_129_23 hG, g_129_24 hG, g_129_25 hG, g_129_26 hG, g_129_28 hG, g_129_29 hG, g_129_33 hG, g_129_34 hG, g_129_35 hG, g_129_36 hG]
        · have e8 := e5 c1
          have e7 : F n = -1 := by rw [e6, zsg, if_neg (fun q => c3 q.2), if_pos ⟨c2, by omega⟩]
          clear e6 e5
          simp (disch := omega) only [p2, ↓(vq_129 e1), ↓(vq_129 e2), ↓(vq_129 e3), ↓(vq_129 e4), zupn, zsw_v e7, ↓zcall_ok, zcall_ok, ↓zjn_ok, zjn_ok, ↓zbl_0, zbl_0, ↓zbl_1, zbl_1, ↓if_pos, if_pos, ↓if_neg, if_neg, ↓zb_ite, zb_ite, ↓zb_itn, zb_itn, ↓gf_129, gf_129, ↓pf_129, pf_129, ↓vc_129, vc_129, if_true, if_false, not_true_eq_false, not_false_eq_true, zu_eq, zu_a, zu_j, ge_iff_le, gt_iff_lt, ne_eq, Int.cast_ofNat_Int, Int.add_zero, Int.zero_add, Int.reduceAdd, Int.reduceSub, Int.reduceMul, Int.reduceNeg, ↓gq_129_0 hG, ↓gq_129_1 hG, ↓gq_129_2 hG, ↓gq_129_3 hG, ↓gq_129_7 hG, ↓gq_129_10 hG, ↓gq_129_11 hG, ↓gq_129_12 hG, ↓gq_129_13 hG, ↓gq_129_19 hG, ↓gq_129_21 hG, ↓gq_129_22 hG, ↓gq_129_23 hG, ↓gq_129_24 hG, ↓gq_129_25 hG, ↓gq_129_26 hG, ↓gq_129_28 hG, ↓gq_129_29 hG, ↓gq_129_33 hG, ↓gq_129_34 hG, ↓gq_129_35 hG, ↓gq_129_36 hG, g_129_0 hG, g_129_1 hG, g_129_2 hG, g_129_3 hG, g_129_7 hG, g_129_10 hG, g_129_11 hG, g_129_12 hG, g_129_13 hG, g_129_19 hG, g_129_21 hG, g_129_22 hG, g_129_23 hG, g_129_24 hG, g_129_25 hG, g_129_26 hG, g_129_28 hG, g_129_29 hG, g_129_33 hG, g_129_34 hG, g_129_35 hG, g_129_36 hG]
      · have e7 : F n = 0 := by rw [e6, zsg, if_neg (by omega), if_neg (fun q => c2 q.1)]
        clear e6 e5
        simp (disch := omega) only [p2, ↓(vq_129 e3), ↓(vq_129 e4), zupn, zsw_0 e7, ↓zcall_ok, zcall_ok, ↓zjn_ok, zjn_ok, ↓zbl_0, zbl_0, ↓zbl_1, zbl_1, ↓if_pos, if_pos, ↓if_neg, if_neg, ↓zb_ite, zb_ite, ↓zb_itn, zb_itn, ↓gf_129, gf_129, ↓pf_129, pf_129, ↓vc_129, vc_129, if_true, if_false, not_true_eq_false, not_false_eq_true, zu_eq, zu_a, zu_j, ge_iff_le, gt_iff_lt, ne_eq, Int.cast_ofNat_Int, Int.add_zero, Int.zero_add, Int.reduceAdd, Int.reduceSub, Int.reduceMul, Int.reduceNeg, ↓gq_129_0 hG, ↓gq_129_1 hG, ↓gq_129_2 hG, ↓gq_129_3 hG, ↓gq_129_7 hG, ↓gq_129_10 hG, ↓gq_129_11 hG, ↓gq_129_12 hG, ↓gq_129_13 hG, ↓gq_129_19 hG, ↓gq_129_21 hG, ↓gq_129_22 hG, ↓gq_129_23 hG, ↓gq_129_24 hG, ↓gq_129_25 hG, ↓gq_129_26 hG, ↓gq_129_28 hG, ↓gq_129_29 hG, ↓gq_129_33 hG, ↓gq_129_34 hG, ↓gq_129_35 hG, ↓gq_129_36 hG, g_129_0 hG, g_129_1 hG, g_129_2 hG, g_129_3 hG, g_129_7 hG, g_129_10 hG, g_129_11 hG, g_129_12 hG, g_129_13 hG, g_129_19 hG, g_129_21 hG, g_129_22 hG, g_129_23 hG, g_129_24 hG, g_129_25 hG, g_129_26 hG, g_129_28 hG, g_129_29 hG, g_129_33 hG, g_129_34 hG, g_129_35 hG, g_129_36 hG]
    · have e7 : F n = 0 := by rw [e6, zsg, if_neg (fun q => c1 q.1), if_neg (by omega)]
      clear e6 e5
      simp (disch := omega) only [p2, ↓(vq_129 e3), zupn, zsw_0 e7, ↓zcall_ok, zcall_ok, ↓zjn_ok, zjn_ok, ↓zbl_0, zbl_0, ↓zbl_1, zbl_1, ↓if_pos, if_pos, ↓if_neg, if_neg, ↓zb_ite, zb_ite, ↓zb_itn, zb_itn, ↓gf_129, gf_129, ↓pf_129, pf_129, ↓vc_129, vc_129, if_true, if_false, not_true_eq_false, not_false_eq_true, zu_eq, zu_a, zu_j, ge_iff_le, gt_iff_lt, ne_eq, Int.cast_ofNat_Int, Int.add_zero, Int.zero_add, Int.reduceAdd, Int.reduceSub, Int.reduceMul, Int.reduceNeg, ↓gq_129_0 hG, ↓gq_129_1 hG, ↓gq_129_2 hG, ↓gq_129_3 hG, ↓gq_129_7 hG, ↓gq_129_10 hG, ↓gq_129_11 hG, ↓gq_129_12 hG, ↓gq_129_13 hG, ↓gq_129_19 hG, ↓gq_129_21 hG, ↓gq_129_22 hG, ↓gq_129_23 hG, ↓gq_129_24 hG, ↓gq_129_25 hG, ↓gq_129_26 hG, ↓gq_129_28 hG, ↓gq_129_29 hG, ↓gq_129_33 hG, ↓gq_129_34 hG, ↓gq_129_35 hG, ↓gq_129_36 hG, g_129_0 hG, g_129_1 hG, g_129_2 hG, g_129_3 hG, g_129_7 hG, g_129_10 hG, g_129_11 hG, g_129_12 hG, g_129_13 hG, g_129_19 hG, g_129_21 hG, g_129_22 hG, g_129_23 hG, g_129_24 hG, g_129_25 hG, g_129_26 hG, g_129_28 hG, g_129_29 hG, g_129_33 hG, g_129_34 hG, g_129_35 hG, g_129_36 hG]
  · have hn2 : (P.toNat : Int) = P := by omega
    by_cases c : 0 < zsw F P.toNat
    · rw [zb_t c]
      simp (disch := omega) only [p2, hn2, ↓zcall_ok, zcall_ok, ↓zjn_ok, zjn_ok, ↓zbl_0, zbl_0, ↓zbl_1, zbl_1, ↓if_pos, if_pos, ↓if_neg, if_neg, ↓zb_ite, zb_ite, ↓zb_itn, zb_itn, ↓gf_129, gf_129, ↓pf_129, pf_129, ↓vc_129, vc_129, if_true, if_false, not_true_eq_false, not_false_eq_true, zu_eq, zu_a, zu_j, ge_iff_le, gt_iff_lt, ne_eq, Int.cast_ofNat_Int, Int.add_zero, Int.zero_add, Int.reduceAdd, Int.reduceSub, Int.reduceMul, Int.reduceNeg, ↓gq_129_0 hG, ↓gq_129_1 hG, ↓gq_129_2 hG, ↓gq_129_3 hG, ↓gq_129_7 hG, ↓gq_129_10 hG, ↓gq_129_11 hG, ↓gq_129_12 hG, ↓gq_129_13 hG, ↓gq_129_19 hG, ↓gq_129_21 hG, ↓gq_129_22 hG, ↓gq_129_23 hG, ↓gq_129_24 hG, ↓gq_129_25 hG, ↓gq_129_26 hG, ↓gq_129_28 hG, ↓gq_129_29 hG, ↓gq_129_33 hG, ↓gq_129_34 hG, ↓gq_129_35 hG, ↓gq_129_36 hG, g_129_0 hG, g_129_1 hG, g_129_2 hG, g_129_3 hG, g_129_7 hG, g_129_10 hG, g_129_11 hG, g_129_12 hG, g_129_13 hG, g_129_19 hG, g_129_21 hG, g_129_22 hG, g_129_23 hG, g_129_24 hG, g_129_25 hG, g_129_26 hG, g_129_28 hG, g_129_29 hG, g_129_33 hG, g_129_34 hG, g_129_35 hG, g_129_36 hG]
    · rw [zb_f c]
      simp (disch := omega) only [p2, hn2, ↓zcall_ok, zcall_ok, ↓zjn_ok, zjn_ok, ↓zbl_0, zbl_0, ↓zbl_1, zbl_1, ↓if_pos, if_pos, ↓if_neg, if_neg, ↓zb_ite, zb_ite, ↓zb_itn, zb_itn, ↓gf_129, gf_129, ↓pf_129, pf_129, ↓vc_129, vc_129, if_true, if_false, not_true_eq_false, not_false_eq_true, zu_eq, zu_a, zu_j, ge_iff_le, gt_iff_lt, ne_eq, Int.cast_ofNat_Int, Int.add_zero, Int.zero_add, Int.reduceAdd, Int.reduceSub, Int.reduceMul, Int.reduceNeg, ↓gq_129_0 hG, ↓gq_129_1 hG, ↓gq_129_2 hG, ↓gq_129_3 hG, ↓gq_129_7 hG, ↓gq_129_10 hG, ↓gq_129_11 hG, ↓gq_129_12 hG, ↓gq_129_13 hG, ↓gq_129_19 hG, ↓gq_129_21 hG, ↓gq_129_22 hG, ↓gq_129_23 hG, ↓gq_129_24 hG, ↓gq_129_25 hG, ↓gq_129_26 hG, ↓gq_129_28 hG, ↓gq_129_29 hG, ↓gq_129_33 hG, ↓gq_129_34 hG, ↓gq_129_35 hG, ↓gq_129_36 hG, g_129_0 hG, g_129_1 hG, g_129_2 hG, g_129_3 hG, g_129_7 hG, g_129_10 hG, g_129_11 hG, g_129_12 hG, g_129_13 hG, g_129_19 hG, g_129_21 hG, g_129_22 hG, g_129_23 hG, g_129_24 hG, g_129_25 hG, g_129_26 hG, g_129_28 hG, g_129_29 hG, g_129_33 hG, g_129_34 hG, g_129_35 hG, g_129_36 hG]
def zgp (bt : Nat → Bool) (c : Nat → Int) : Nat → Int × Int
  | 0 => (-1, 0)
  | n + 1 => if bt n = true ∧ ((zgp bt c n).1 < 0 ∨ (zgp bt c n).2 < c n) then ((n : Int), c n) else zgp bt c n
set_option maxHeartbeats 400000 in
theorem zgp_t {bt : Nat → Bool} {c : Nat → Int} {n : Nat} (h : bt n = true ∧ ((zgp bt c n).1 < 0 ∨ (zgp bt c n).2 < c n)) : zgp bt c (n + 1) = ((n : Int), c n) := if_pos h
set_option maxHeartbeats 400000 in
theorem zgp_f {bt : Nat → Bool} {c : Nat → Int} {n : Nat} (h : ¬ (bt n = true ∧ ((zgp bt c n).1 < 0 ∨ (zgp bt c n).2 < c n))) : zgp bt c (n + 1) = zgp bt c n := if_neg h
set_option maxHeartbeats 400000 in
theorem zgp_is {bt : Nat → Bool} {c c' : Nat → Int} (h0 : ∀ n, 0 ≤ c n) (ht : ∀ n, bt n = true → c' n = c n) (hf : ∀ n, bt n = false → c' n = -1) : ∀ n, (zgm c' n = -1 ∧ zgp bt c n = (-1, 0)) ∨ (0 ≤ zgm c' n ∧ 0 ≤ zgb c' n ∧ zgb c' n < n ∧ zgp bt c n = (zgb c' n, zgm c' n) ∧ bt (zgb c' n).toNat = true)
  | 0 => Or.inl ⟨rfl, rfl⟩
  | n + 1 => by
    have ih := zgp_is h0 ht hf n
    have hc := h0 n
    cases hb : bt n with
    | false =>
      have e1 := hf n hb
      have e2 := zgm_le (c := c') (n := n) (by rcases ih with q | q <;> omega)
      rw [zgp_f (by rw [hb]; exact fun q => by cases q.1), e2.1, e2.2]
      rcases ih with q | ⟨q1, q2, q3, q4⟩
      · exact Or.inl q
      · exact Or.inr ⟨q1, q2, by omega, q4⟩
    | true =>
      have e1 := ht n hb
      rcases ih with ⟨q1, q2⟩ | ⟨q1, q2, q3, q4, q5⟩
      · have e2 := zgm_gt (c := c') (n := n) (by omega)
        rw [zgp_t ⟨hb, by rw [q2]; exact Or.inl (by decide)⟩, e2.1, e2.2, e1]
        exact Or.inr ⟨hc, by omega, by omega, rfl, by rw [Int.toNat_natCast]; exact hb⟩
      · by_cases h : c' n ≤ zgm c' n
        · have e2 := zgm_le h
          rw [zgp_f (by rw [q4]; show ¬ (_ ∧ (zgb c' n < 0 ∨ zgm c' n < c n)); omega), e2.1, e2.2]
          exact Or.inr ⟨q1, q2, by omega, q4, q5⟩
        · have e2 := zgm_gt h
          rw [zgp_t ⟨hb, by rw [q4]; show zgb c' n < 0 ∨ zgm c' n < c n; omega⟩, e2.1, e2.2, e1]
          exact Or.inr ⟨hc, by omega, by omega, rfl, by rw [Int.toNat_natCast]; exact hb⟩
set_option maxHeartbeats 400000 in
theorem s11_nextOf {μ : zMem} (hG : zG0 μ) {N L : Nat} (hN : N ≤ 16) (hM : μ 129 6 = N) (hL : L < 65536) {h : Nat → Nat → Int} {g : Nat → Nat → Int} (hg0 : ∀ a, g a a = 0) (hh : ∀ a b : Nat, h a b = if zbi L b = true ∧ 0 < g a b then 1 else 0)
    (hbt : ∀ a b : Nat, a < N → b < N → a ≠ b → fX11_beats 129 a b μ = some (zb (0 < g a b), μ)) {c : Nat → Int} (hc : ∀ a, c a = zcn (h a) N) : fX11_nextOf 129 L μ = some ((zgp (zbi L) c N).1, μ) := by
  rw [eX11_nextOf]
  unfold lX11_nextOf_2
  refine zle3 (fun n => (zgp (zbi L) c n).1) (fun n => (zgp (zbi L) c n).2) (fun n => (n : Int)) (fun _ => μ) rfl rfl rfl rfl N (by omega) (fun k a ha => ?_) (fun k => ?_)
  · have h01 : ∀ n, h a n = 0 ∨ h a n = 1 := fun n => by rw [hh]; split <;> simp
    have inner : ∀ (v1 v2 : Int) (k10 : Int → Int → zMem → zRs), lX11_nextOf_1 129 L v1 v2 a k10 0 0 μ = if v1 < 0 ∨ v2 < c a then k10 a (c a) μ else k10 v1 v2 μ := by
      intro v1 v2 k10
      unfold lX11_nextOf_1
      refine zlA (zcn (h a)) rfl N (by omega) (fun k2 n hn => ?_) (fun k2 => ?_)
      · have hi := zcn_in h01 n
        have hhn := hh a n
        have hbn := hbt a n ha hn
        have hg := hg0 a
        clear hh hbt hg0 h01 hc
        cases hb : zbi L n with
        | false =>
          have e : h a n = 0 := by rw [hhn, if_neg (by rw [hb]; exact fun q => by cases q.1)]
          clear hhn hbn
          simp (disch := omega) only [hM, zbi_f (a := L) (k := n) (by omega) (by omega) hb, zupn, zcn_S, e, Int.add_zero, zuc, zw32_id, ↓zcall_ok, zcall_ok, ↓zjn_ok, zjn_ok, ↓zbl_0, zbl_0, ↓zbl_1, zbl_1, ↓if_pos, if_pos, ↓if_neg, if_neg, ↓zb_ite, zb_ite, ↓zb_itn, zb_itn, ↓gf_129, gf_129, ↓pf_129, pf_129, ↓vc_129, vc_129, if_true, if_false, not_true_eq_false, not_false_eq_true, zu_eq, zu_a, zu_j, ge_iff_le, gt_iff_lt, ne_eq, Int.cast_ofNat_Int, Int.add_zero, Int.zero_add, Int.reduceAdd, Int.reduceSub, Int.reduceMul, Int.reduceNeg, ↓gq_129_0 hG, ↓gq_129_1 hG, ↓gq_129_2 hG, ↓gq_129_3 hG, ↓gq_129_7 hG, ↓gq_129_10 hG, ↓gq_129_11 hG, ↓gq_129_12 hG, ↓gq_129_13 hG, ↓gq_129_19 hG, ↓gq_129_21 hG, ↓gq_129_22 hG, ↓gq_129_23 hG, ↓gq_129_24 hG, ↓gq_129_25 hG, ↓gq_129_26 hG, ↓gq_129_28 hG, ↓gq_129_29 hG, ↓gq_129_33 hG, ↓gq_129_34 hG, ↓gq_129_35 hG, ↓gq_129_36 hG, g_129_0 hG, g_129_1 hG, g_129_2 hG, g_129_3 hG, g_129_7 hG, g_129_10 hG, g_129_11 hG, g_129_12 hG, g_129_13 hG, g_129_19 hG, g_129_21 hG, g_129_22 hG, g_129_23 hG, g_129_24 hG, g_129_25 hG, g_129_26 hG, g_129_28 hG, g_129_29 hG, g_129_33 hG, g_129_34 hG, g_129_35 hG, g_129_36 hG]
        | true =>
          by_cases han : a = n
          · subst han
            have e : h a a = 0 := by rw [hhn, if_neg (by rw [hg]; exact fun q => absurd q.2 (by decide))]
            clear hhn hbn
            simp (disch := omega) only [hM, zbi_t (a := L) (k := a) (by omega) (by omega) hb, zupn, zcn_S, e, Int.add_zero, zuc, zw32_id, ↓zcall_ok, zcall_ok, ↓zjn_ok, zjn_ok, ↓zbl_0, zbl_0, ↓zbl_1, zbl_1, ↓if_pos, if_pos, ↓if_neg, if_neg, ↓zb_ite, zb_ite, ↓zb_itn, zb_itn, ↓gf_129, gf_129, ↓pf_129, pf_129, ↓vc_129, vc_129, if_true, if_false, not_true_eq_false, not_false_eq_true, zu_eq, zu_a, zu_j, ge_iff_le, gt_iff_lt, ne_eq, Int.cast_ofNat_Int, Int.add_zero, Int.zero_add, Int.reduceAdd, Int.reduceSub, Int.reduceMul, Int.reduceNeg, ↓gq_129_0 hG, ↓gq_129_1 hG, ↓gq_129_2 hG, ↓gq_129_3 hG, ↓gq_129_7 hG, ↓gq_129_10 hG, ↓gq_129_11 hG, ↓gq_129_12 hG, ↓gq_129_13 hG, ↓gq_129_19 hG, ↓gq_129_21 hG, ↓gq_129_22 hG, ↓gq_129_23 hG, ↓gq_129_24 hG, ↓gq_129_25 hG, ↓gq_129_26 hG, ↓gq_129_28 hG, ↓gq_129_29 hG, ↓gq_129_33 hG, ↓gq_129_34 hG, ↓gq_129_35 hG, ↓gq_129_36 hG, g_129_0 hG, g_129_1 hG, g_129_2 hG, g_129_3 hG, g_129_7 hG, g_129_10 hG, g_129_11 hG, g_129_12 hG, g_129_13 hG, g_129_19 hG, g_129_21 hG, g_129_22 hG, g_129_23 hG, g_129_24 hG, g_129_25 hG, g_129_26 hG, g_129_28 hG, g_129_29 hG, g_129_33 hG, g_129_34 hG, g_129_35 hG, g_129_36 hG]
          · have e1 := hbn han
            by_cases hgp : 0 < g a n
            · have e : h a n = 1 := by rw [hhn, if_pos ⟨hb, hgp⟩]
              rw [zb_t hgp] at e1
              clear hhn hbn
              simp (disch := omega) only [hM, zbi_t (a := L) (k := n) (by omega) (by omega) hb, ↓(vq_129 e1), zupn, zcn_S, e, zuc, zw32_id, ↓zcall_ok, zcall_ok, ↓zjn_ok, zjn_ok, ↓zbl_0, zbl_0, ↓zbl_1, zbl_1, ↓if_pos, if_pos, ↓if_neg, if_neg, ↓zb_ite, zb_ite, ↓zb_itn, zb_itn, ↓gf_129, gf_129, ↓pf_129, pf_129, ↓vc_129, vc_129, if_true, if_false, not_true_eq_false, not_false_eq_true, zu_eq, zu_a, zu_j, ge_iff_le, gt_iff_lt, ne_eq, Int.cast_ofNat_Int, Int.add_zero, Int.zero_add, Int.reduceAdd, Int.reduceSub, Int.reduceMul, Int.reduceNeg, ↓gq_129_0 hG, ↓gq_129_1 hG, ↓gq_129_2 hG, ↓gq_129_3 hG, ↓gq_129_7 hG, ↓gq_129_10 hG, ↓gq_129_11 hG, ↓gq_129_12 hG, ↓gq_129_13 hG, ↓gq_129_19 hG, ↓gq_129_21 hG, ↓gq_129_22 hG, ↓gq_129_23 hG, ↓gq_129_24 hG, ↓gq_129_25 hG, ↓gq_129_26 hG, ↓gq_129_28 hG, ↓gq_129_29 hG, ↓gq_129_33 hG, ↓gq_129_34 hG, ↓gq_129_35 hG, ↓gq_129_36 hG, g_129_0 hG, g_129_1 hG, g_129_2 hG, g_129_3 hG, g_129_7 hG, g_129_10 hG, g_129_11 hG, g_129_12 hG, g_129_13 hG, g_129_19 hG, g_129_21 hG, g_129_22 hG, g_129_23 hG, g_129_24 hG, g_129_25 hG, g_129_26 hG, g_129_28 hG, g_129_29 hG, g_129_33 hG, g_129_34 hG, g_129_35 hG, g_129_36 hG]
            · have e : h a n = 0 := by rw [hhn, if_neg (fun q => hgp q.2)]
              rw [zb_f hgp] at e1
              clear hhn hbn
              simp (disch := omega) only [hM, zbi_t (a := L) (k := n) (by omega) (by omega) hb, ↓(vq_129 e1), zupn, zcn_S, e, Int.add_zero, zuc, zw32_id, ↓zcall_ok, zcall_ok, ↓zjn_ok, zjn_ok, ↓zbl_0, zbl_0, ↓zbl_1, zbl_1, ↓if_pos, if_pos, ↓if_neg, if_neg, ↓zb_ite, zb_ite, ↓zb_itn, zb_itn, ↓gf_129, gf_129, ↓pf_129, pf_129, ↓vc_129, vc_129, if_true, if_false, not_true_eq_false, not_false_eq_true, zu_eq, zu_a, zu_j, ge_iff_le, gt_iff_lt, ne_eq, Int.cast_ofNat_Int, Int.add_zero, Int.zero_add, Int.reduceAdd, Int.reduceSub, Int.reduceMul, Int.reduceNeg, ↓gq_129_0 hG, ↓gq_129_1 hG, ↓gq_129_2 hG, ↓gq_129_3 hG, ↓gq_129_7 hG, ↓gq_129_10 hG, ↓gq_129_11 hG, ↓gq_129_12 hG, ↓gq_129_13 hG, ↓gq_129_19 hG, ↓gq_129_21 hG, ↓gq_129_22 hG, ↓gq_129_23 hG, ↓gq_129_24 hG, ↓gq_129_25 hG, ↓gq_129_26 hG, ↓gq_129_28 hG, ↓gq_129_29 hG, ↓gq_129_33 hG, ↓gq_129_34 hG, ↓gq_129_35 hG, ↓gq_129_36 hG, g_129_0 hG, g_129_1 hG, g_129_2 hG, g_129_3 hG, g_129_7 hG, g_129_10 hG, g_129_11 hG, g_129_12 hG, g_129_13 hG, g_129_19 hG, g_129_21 hG, g_129_22 hG, g_129_23 hG, g_129_24 hG, g_129_25 hG, g_129_26 hG, g_129_28 hG, g_129_29 hG, g_129_33 hG, g_129_34 hG, g_129_35 hG, g_129_36 hG]
      · rw [← hc a]
        clear hh hbt hg0 h01 hc
        by_cases c1 : v1 < 0
        · simp (disch := omega) only [hM, ↓zcall_ok, zcall_ok, ↓zjn_ok, zjn_ok, ↓zbl_0, zbl_0, ↓zbl_1, zbl_1, ↓if_pos, if_pos, ↓if_neg, if_neg, ↓zb_ite, zb_ite, ↓zb_itn, zb_itn, ↓gf_129, gf_129, ↓pf_129, pf_129, ↓vc_129, vc_129, if_true, if_false, not_true_eq_false, not_false_eq_true, zu_eq, zu_a, zu_j, ge_iff_le, gt_iff_lt, ne_eq, Int.cast_ofNat_Int, Int.add_zero, Int.zero_add, Int.reduceAdd, Int.reduceSub, Int.reduceMul, Int.reduceNeg, ↓gq_129_0 hG, ↓gq_129_1 hG, ↓gq_129_2 hG, ↓gq_129_3 hG, ↓gq_129_7 hG, ↓gq_129_10 hG, ↓gq_129_11 hG, ↓gq_129_12 hG, ↓gq_129_13 hG, ↓gq_129_19 hG, ↓gq_129_21 hG, ↓gq_129_22 hG, ↓gq_129_23 hG, ↓gq_129_24 hG, ↓gq_129_25 hG, ↓gq_129_26 hG, ↓gq_129_28 hG, ↓gq_129_29 hG, ↓gq_129_33 hG, ↓gq_129_34 hG, ↓gq_129_35 hG, ↓gq_129_36 hG, g_129_0 hG, g_129_1 hG, g_129_2 hG, g_129_3 hG, g_129_7 hG, g_129_10 hG, g_129_11 hG, g_129_12 hG, g_129_13 hG, g_129_19 hG, g_129_21 hG, g_129_22 hG, g_129_23 hG, g_129_24 hG, g_129_25 hG, g_129_26 hG, g_129_28 hG, g_129_29 hG, g_129_33 hG, g_129_34 hG, g_129_35 hG, g_129_36 hG]
        · by_cases c2 : v2 < c a
          · simp (disch := omega) only [hM, ↓zcall_ok, zcall_ok, ↓zjn_ok, zjn_ok, ↓zbl_0, zbl_0, ↓zbl_1, zbl_1, ↓if_pos, if_pos, ↓if_neg, if_neg, ↓zb_ite, zb_ite, ↓zb_itn, zb_itn, ↓gf_129, gf_129, ↓pf_129, pf_129, ↓vc_129, vc_129, if_true, if_false, not_true_eq_false, not_false_eq_true, zu_eq, zu_a, zu_j, ge_iff_le, gt_iff_lt, ne_eq, Int.cast_ofNat_Int, Int.add_zero, Int.zero_add, Int.reduceAdd, Int.reduceSub, Int.reduceMul, Int.reduceNeg, ↓gq_129_0 hG, ↓gq_129_1 hG, ↓gq_129_2 hG, ↓gq_129_3 hG, ↓gq_129_7 hG, ↓gq_129_10 hG, ↓gq_129_11 hG, ↓gq_129_12 hG, ↓gq_129_13 hG, ↓gq_129_19 hG, ↓gq_129_21 hG, ↓gq_129_22 hG, ↓gq_129_23 hG, ↓gq_129_24 hG, ↓gq_129_25 hG, ↓gq_129_26 hG, ↓gq_129_28 hG, ↓gq_129_29 hG, ↓gq_129_33 hG, ↓gq_129_34 hG, ↓gq_129_35 hG, ↓gq_129_36 hG, g_129_0 hG, g_129_1 hG, g_129_2 hG, g_129_3 hG, g_129_7 hG, g_129_10 hG, g_129_11 hG, g_129_12 hG, g_129_13 hG, g_129_19 hG, g_129_21 hG, g_129_22 hG, g_129_23 hG, g_129_24 hG, g_129_25 hG, g_129_26 hG, g_129_28 hG, g_129_29 hG, g_129_33 hG, g_129_34 hG, g_129_35 hG, g_129_36 hG]
          · simp (disch := omega) only [hM, ↓zcall_ok, zcall_ok, ↓zjn_ok, zjn_ok, ↓zbl_0, zbl_0, ↓zbl_1, zbl_1, ↓if_pos, if_pos, ↓if_neg, if_neg, ↓zb_ite, zb_ite, ↓zb_itn, zb_itn, ↓gf_129, gf_129, ↓pf_129, pf_129, ↓vc_129, vc_129, if_true, if_false, not_true_eq_false, not_false_eq_true, zu_eq, zu_a, zu_j, ge_iff_le, gt_iff_lt, ne_eq, Int.cast_ofNat_Int, Int.add_zero, Int.zero_add, Int.reduceAdd, Int.reduceSub, Int.reduceMul, Int.reduceNeg, ↓gq_129_0 hG, ↓gq_129_1 hG, ↓gq_129_2 hG, ↓gq_129_3 hG, ↓gq_129_7 hG, ↓gq_129_10 hG, ↓gq_129_11 hG, ↓gq_129_12 hG, ↓gq_129_13 hG, ↓gq_129_19 hG, ↓gq_129_21 hG, ↓gq_129_22 hG, ↓gq_129_23 hG, ↓gq_129_24 hG, ↓gq_129_25 hG, ↓gq_129_26 hG, ↓gq_129_28 hG, ↓gq_129_29 hG, ↓gq_129_33 hG, ↓gq_129_34 hG, ↓gq_129_35 hG, ↓gq_129_36 hG, g_129_0 hG, g_129_1 hG, g_129_2 hG, g_129_3 hG, g_129_7 hG, g_129_10 hG, g_129_11 hG, g_129_12 hG, g_129_13 hG, g_129_19 hG, g_129_21 hG, g_129_22 hG, g_129_23 hG, g_129_24 hG, g_129_25 hG, g_129_26 hG, g_129_28 hG, g_129_29 hG, g_129_33 hG, g_129_34 hG, g_129_35 hG, g_129_36 hG]
    clear hh hbt hg0 h01 hc
    cases hb : zbi L a with
    | false =>
      have e := zgp_f (bt := zbi L) (c := c) (n := a) (by rw [hb]; exact fun q => by cases q.1)
      simp only [e]
      simp (disch := omega) only [hM, zbi_f (a := L) (k := a) (by omega) (by omega) hb, zupn, ↓zcall_ok, zcall_ok, ↓zjn_ok, zjn_ok, ↓zbl_0, zbl_0, ↓zbl_1, zbl_1, ↓if_pos, if_pos, ↓if_neg, if_neg, ↓zb_ite, zb_ite, ↓zb_itn, zb_itn, ↓gf_129, gf_129, ↓pf_129, pf_129, ↓vc_129, vc_129, if_true, if_false, not_true_eq_false, not_false_eq_true, zu_eq, zu_a, zu_j, ge_iff_le, gt_iff_lt, ne_eq, Int.cast_ofNat_Int, Int.add_zero, Int.zero_add, Int.reduceAdd, Int.reduceSub, Int.reduceMul, Int.reduceNeg, ↓gq_129_0 hG, ↓gq_129_1 hG, ↓gq_129_2 hG, ↓gq_129_3 hG, ↓gq_129_7 hG, ↓gq_129_10 hG, ↓gq_129_11 hG, ↓gq_129_12 hG, ↓gq_129_13 hG, ↓gq_129_19 hG, ↓gq_129_21 hG, ↓gq_129_22 hG, ↓gq_129_23 hG, ↓gq_129_24 hG, ↓gq_129_25 hG, ↓gq_129_26 hG, ↓gq_129_28 hG, ↓gq_129_29 hG, ↓gq_129_33 hG, ↓gq_129_34 hG, ↓gq_129_35 hG, ↓gq_129_36 hG, g_129_0 hG, g_129_1 hG, g_129_2 hG, g_129_3 hG, g_129_7 hG, g_129_10 hG, g_129_11 hG, g_129_12 hG, g_129_13 hG, g_129_19 hG, g_129_21 hG, g_129_22 hG, g_129_23 hG, g_129_24 hG, g_129_25 hG, g_129_26 hG, g_129_28 hG, g_129_29 hG, g_129_33 hG, g_129_34 hG, g_129_35 hG, g_129_36 hG]
    | true =>
      by_cases c1 : (zgp (zbi L) c a).1 < 0 ∨ (zgp (zbi L) c a).2 < c a
      · have e := zgp_t (bt := zbi L) (c := c) (n := a) ⟨hb, c1⟩
        simp only [e]
        simp (disch := omega) only [hM, zbi_t (a := L) (k := a) (by omega) (by omega) hb, zupn, inner, ↓zcall_ok, zcall_ok, ↓zjn_ok, zjn_ok, ↓zbl_0, zbl_0, ↓zbl_1, zbl_1, ↓if_pos, if_pos, ↓if_neg, if_neg, ↓zb_ite, zb_ite, ↓zb_itn, zb_itn, ↓gf_129, gf_129, ↓pf_129, pf_129, ↓vc_129, vc_129, if_true, if_false, not_true_eq_false, not_false_eq_true, zu_eq, zu_a, zu_j, ge_iff_le, gt_iff_lt, ne_eq, Int.cast_ofNat_Int, Int.add_zero, Int.zero_add, Int.reduceAdd, Int.reduceSub, Int.reduceMul, Int.reduceNeg, ↓gq_129_0 hG, ↓gq_129_1 hG, ↓gq_129_2 hG, ↓gq_129_3 hG, ↓gq_129_7 hG, ↓gq_129_10 hG, ↓gq_129_11 hG, ↓gq_129_12 hG, ↓gq_129_13 hG, ↓gq_129_19 hG, ↓gq_129_21 hG, ↓gq_129_22 hG, ↓gq_129_23 hG, ↓gq_129_24 hG, ↓gq_129_25 hG, ↓gq_129_26 hG, ↓gq_129_28 hG, ↓gq_129_29 hG, ↓gq_129_33 hG, ↓gq_129_34 hG, ↓gq_129_35 hG, ↓gq_129_36 hG, g_129_0 hG, g_129_1 hG, g_129_2 hG, g_129_3 hG, g_129_7 hG, g_129_10 hG, g_129_11 hG, g_129_12 hG, g_129_13 hG, g_129_19 hG, g_129_21 hG, g_129_22 hG, g_129_23 hG, g_129_24 hG, g_129_25 hG, g_129_26 hG, g_129_28 hG, g_129_29 hG, g_129_33 hG, g_129_34 hG, g_129_35 hG, g_129_36 hG]
      · have e := zgp_f (bt := zbi L) (c := c) (n := a) (fun q => c1 q.2)
        simp only [e]
        simp (disch := omega) only [hM, zbi_t (a := L) (k := a) (by omega) (by omega) hb, zupn, inner, ↓zcall_ok, zcall_ok, ↓zjn_ok, zjn_ok, ↓zbl_0, zbl_0, ↓zbl_1, zbl_1, ↓if_pos, if_pos, ↓if_neg, if_neg, ↓zb_ite, zb_ite, ↓zb_itn, zb_itn, ↓gf_129, gf_129, ↓pf_129, pf_129, ↓vc_129, vc_129, if_true, if_false, not_true_eq_false, not_false_eq_true, zu_eq, zu_a, zu_j, ge_iff_le, gt_iff_lt, ne_eq, Int.cast_ofNat_Int, Int.add_zero, Int.zero_add, Int.reduceAdd, Int.reduceSub, Int.reduceMul, Int.reduceNeg, ↓gq_129_0 hG, ↓gq_129_1 hG, ↓gq_129_2 hG, ↓gq_129_3 hG, ↓gq_129_7 hG, ↓gq_129_10 hG, ↓gq_129_11 hG, ↓gq_129_12 hG, ↓gq_129_13 hG, ↓gq_129_19 hG, ↓gq_129_21 hG, ↓gq_129_22 hG, ↓gq_129_23 hG, ↓gq_129_24 hG, ↓gq_129_25 hG, ↓gq_129_26 hG, ↓gq_129_28 hG, ↓gq_129_29 hG, ↓gq_129_33 hG, ↓gq_129_34 hG, ↓gq_129_35 hG, ↓gq_129_36 hG, g_129_0 hG, g_129_1 hG, g_129_2 hG, g_129_3 hG, g_129_7 hG, g_129_10 hG, g_129_11 hG, g_129_12 hG, g_129_13 hG, g_129_19 hG, g_129_21 hG, g_129_22 hG, g_129_23 hG, g_129_24 hG, g_129_25 hG, g_129_26 hG, g_129_28 hG, g_129_29 hG, g_129_33 hG, g_129_34 hG, g_129_35 hG, g_129_36 hG]
  · simp (disch := omega) only [hM, ↓zcall_ok, zcall_ok, ↓zjn_ok, zjn_ok, ↓zbl_0, zbl_0, ↓zbl_1, zbl_1, ↓if_pos, if_pos, ↓if_neg, if_neg, ↓zb_ite, zb_ite, ↓zb_itn, zb_itn, ↓gf_129, gf_129, ↓pf_129, pf_129, ↓vc_129, vc_129, if_true, if_false, not_true_eq_false, not_false_eq_true, zu_eq, zu_a, zu_j, ge_iff_le, gt_iff_lt, ne_eq, Int.cast_ofNat_Int, Int.add_zero, Int.zero_add, Int.reduceAdd, Int.reduceSub, Int.reduceMul, Int.reduceNeg, ↓gq_129_0 hG, ↓gq_129_1 hG, ↓gq_129_2 hG, ↓gq_129_3 hG, ↓gq_129_7 hG, ↓gq_129_10 hG, ↓gq_129_11 hG, ↓gq_129_12 hG, ↓gq_129_13 hG, ↓gq_129_19 hG, ↓gq_129_21 hG, ↓gq_129_22 hG, ↓gq_129_23 hG, ↓gq_129_24 hG, ↓gq_129_25 hG, ↓gq_129_26 hG, ↓gq_129_28 hG, ↓gq_129_29 hG, ↓gq_129_33 hG, ↓gq_129_34 hG, ↓gq_129_35 hG, ↓gq_129_36 hG, g_129_0 hG, g_129_1 hG, g_129_2 hG, g_129_3 hG, g_129_7 hG, g_129_10 hG, g_129_11 hG, g_129_12 hG, g_129_13 hG, g_129_19 hG, g_129_21 hG, g_129_22 hG, g_129_23 hG, g_129_24 hG, g_129_25 hG, g_129_26 hG, g_129_28 hG, g_129_29 hG, g_129_33 hG, g_129_34 hG, g_129_35 hG, g_129_36 hG]
