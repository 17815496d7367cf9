/-! ===== add ===== -/
set_option maxHeartbeats 400000 in
theorem c_mark {μ : zMem} (hG : zG0 μ) {p : Int} (h0 : 0 ≤ p) (h1 : p < 10) {L : List zEn} (hL : zpC μ p L) (h16 : L.length ≤ 16) {i : Nat} {e : zEn} (hi : L[i]? = some e) : fX6_markAdded (zbP p) i μ = some (0, zupd μ (zbP p + 2 + 3) i 1) := by
  have hz : zbP p = 53 + 6 * p := rfl
  have hl := zgetL hi
  have e2 := s6_hasPlace (μ := μ) h0 h1 (i : Int)
  rw [hL.1, zb_t ⟨by omega, by omega⟩] at e2
  unfold fX6_markAdded
  clear hL hi
  simp (disch := omega) only [↓(vcP_of h0 h1 e2), ↓gqP hG, alPe, g_Pe hG, asPr, ↓zcall_ok, zcall_ok, ↓zjn_ok, zjn_ok, ↓zbl_0, zbl_0, ↓zbl_1, zbl_1, ↓if_pos, if_pos, ↓if_neg, if_neg, ↓zb_ite, zb_ite, ↓zb_itn, zb_itn, ↓gf_6, gf_6, ↓pf_6, pf_6, ↓vc_6, vc_6, if_true, if_false, not_true_eq_false, not_false_eq_true, zu_eq, zu_a, zu_j, ge_iff_le, gt_iff_lt, ne_eq, Int.cast_ofNat_Int, Int.add_zero, Int.zero_add, Int.reduceAdd, Int.reduceSub, Int.reduceMul, Int.reduceNeg]
set_option maxHeartbeats 400000 in
theorem r_add_1 {μ : zMem} (hG : zG0 μ) {p : Int} (h0 : 0 ≤ p) (h1 : p < 10) {L : List zEn} (hR : zpR μ p L) (h16 : L.length < 16) (h01 : ∀ e ∈ L, e.2.2.2 = 0 ∨ e.2.2.2 = 1) {x s l : Int} (x0 : 0 ≤ x) (x1 : x < 16) (hs : μ 130 (16 + x) = s) (hl : μ 130 (48 + x) = l) {i : Nat} (hi : i ≤ L.length) :
    ∃ μ', lX11_add_1 129 p x i L.length μ = some ((L.length : Int) + 1, μ') ∧ zpR μ' p (L.insertIdx i (x, s, l, 1)) ∧ zoR p μ μ' := by
  obtain ⟨hs1, hr⟩ := hR
  obtain ⟨m, hm⟩ : ∃ m : Nat, i + m = L.length := ⟨L.length - i, by omega⟩
  obtain ⟨M, hM⟩ : ∃ M : Nat → zMem, ∀ n a j, M n a j = if 142 ≤ a ∧ a ≤ 145 ∧ 16 * p + ((L.length : Int) - n) < j ∧ j ≤ 16 * p + L.length then μ a (j - 1) else μ a j := ⟨fun n a j => if 142 ≤ a ∧ a ≤ 145 ∧ 16 * p + ((L.length : Int) - n) < j ∧ j ≤ 16 * p + L.length then μ a (j - 1) else μ a j, fun _ _ _ => rfl⟩
  have hMo : ∀ n a j, ¬ (142 ≤ a ∧ a ≤ 145) → M n a j = μ a j := fun n a j q => by rw [hM, if_neg (by omega)]
  have hMR : ∀ n : Nat, n ≤ m → zoR p μ (M n) := fun n hn a j _ q => by rw [hM, if_neg (by omega)]
  have hLm : (L.length : Int) - m = i := by omega
  refine ⟨zupd (zpu (M m) p i x s l 1) 141 p ((L.length : Int) + 1), ?_, ⟨?_, ?_⟩, zoR_t (zoR_t (hMR m (Nat.le_refl _)) (zoR_pu (by omega) (by omega))) zoR_sz⟩
  · unfold lX11_add_1
    refine zle1 (fun n => (L.length : Int) - n) M (by simp) ?_ m (by omega) (fun k n hn => ?_) (fun k => ?_)
    · funext a j
      rw [hM, if_neg (by omega)]
    · obtain ⟨B, hB⟩ : ∃ B : Nat, (L.length : Int) - n = (B : Int) + 1 := ⟨L.length - n - 1, by omega⟩
      have hB2 : (L.length : Int) - ((n + 1 : Nat) : Int) = B := by omega
      simp only [hB, hB2]
      have m2 : ∀ j, M n 129 j = μ 129 j := fun j => hMo _ _ _ (by omega)
      have hGM := zoR_G0 (hMR n (by omega)) hG
      obtain ⟨e, he⟩ := zgetE (L := L) (k := B) (by omega)
      obtain ⟨r0, r1, r2, r3⟩ := hr B e he
      have hmB : ∀ a, M n a (16 * p + B) = μ a (16 * p + B) := fun a => by rw [hM, if_neg (by omega)]
      have e1 := r_moves hGM h0 h1 (t := (B : Int) + 1) (f := B) (by omega) (by omega) (by omega) (by omega) (by rw [hmB, show μ 145 (16 * p + B) = e.2.2.2 from r3]; exact h01 e (List.mem_of_getElem? he))
      have em : zpu (M n) p ((B : Int) + 1) (M n 142 (16 * p + B)) (M n 143 (16 * p + B)) (M n 144 (16 * p + B)) (M n 145 (16 * p + B)) = M (n + 1) := by
        funext a j
        by_cases hj : 142 ≤ a ∧ a ≤ 145 ∧ j = 16 * p + ((B : Int) + 1)
        · obtain ⟨z1, z2, z3, z4⟩ := zpu_at (μ := M n) (p := p) (k := (B : Int) + 1) (a := M n 142 (16 * p + B)) (b := M n 143 (16 * p + B)) (c := M n 144 (16 * p + B)) (d := M n 145 (16 * p + B)) (q := j) (j := 0) hj.2.2
          have hj1 : j - 1 = 16 * p + B := by omega
          rw [hM (n + 1), if_pos (by omega), hj1, ← hmB]
          rcases (show a = 142 ∨ a = 143 ∨ a = 144 ∨ a = 145 by omega) with rfl | rfl | rfl | rfl
          · exact z1
          · exact z2
          · exact z3
          · exact z4
        · rw [zpu_o hj, hM, hM]
          by_cases hb : 142 ≤ a ∧ a ≤ 145 ∧ 16 * p + ((L.length : Int) - n) < j ∧ j ≤ 16 * p + L.length
          · rw [if_pos hb, if_pos (by omega)]
          · rw [if_neg hb, if_neg (by omega)]
      rw [em] at e1
      have hb1 : zw32 ((B : Int) + 1 - 1) = (B : Int) := by rw [zw32_id (by omega) (by omega)]; omega
      have hb2 : zw32 ((B : Int) + 1 + -1) = (B : Int) := by rw [zw32_id (by omega) (by omega)]; omega
      have hBl : ¬ (B : Int) + 1 ≤ i := by omega
      show (if (B : Int) + 1 ≤ i then _ else zvc 11 129 (fX11_moves 129 p ((B : Int) + 1) (zw32 ((B : Int) + 1 - 1)) (M n)) (fun _ u28 => k (zw32 ((B : Int) + 1 + -1)) u28)) = _
      rw [if_neg hBl, hb1, hb2, vq_129 e1]
    · simp only [hLm]
      have m2 : ∀ j, M m 129 j = μ 129 j := fun j => hMo _ _ _ (by omega)
      have m3 : ∀ j, M m 130 j = μ 130 j := fun j => hMo _ _ _ (by omega)
      have m1 : M m 141 p = (L.length : Int) := (hMo _ _ _ (by omega)).trans hs1
      have hGM := zoR_G0 (hMR m (by omega)) hG
      have e1 := r_puts hGM h0 h1 (k := i) (by omega) (by omega) (a := x) (b := s) (c := l) (d := 1) (Or.inr rfl)
      have q1 : zpu (M m) p i x s l 1 129 22 = 141 := by rw [zpu_o (by omega), m2]; exact g_129_22 hG
      have q2 : zpu (M m) p i x s l 1 141 p = L.length := by rw [zpu_o (by omega), m1]
      clear hM hMo hMR hr h01
      simp (disch := omega) only [m2, m3, g_129_0 hG, g_129_22 hG, hs, hl, ↓(vq_129 e1), q1, q2, zw32_id, ↓zcall_ok, zcall_ok, ↓zjn_ok, zjn_ok, ↓zbl_0, zbl_0, ↓zbl_1, zbl_1, ↓if_pos, if_pos, ↓if_neg, if_neg, ↓zb_ite, zb_ite, ↓zb_itn, zb_itn, ↓gf_129, gf_129, ↓pf_129, pf_129, ↓vc_129, vc_129, ↓al_130, al_130, ↓as_130, as_130, ↓ln_130, ln_130, ↓al_141, al_141, ↓as_141, as_141, ↓ln_141, ln_141, if_true, if_false, not_true_eq_false, not_false_eq_true, zu_eq, zu_a, zu_j, ge_iff_le, gt_iff_lt, ne_eq, Int.cast_ofNat_Int, Int.add_zero, Int.zero_add, Int.reduceAdd, Int.reduceSub, Int.reduceMul, Int.reduceNeg]
  · rw [zu_eq, List.length_insertIdx_of_le_length hi]
    omega
  · refine zrow_ins hr hi (fun k k0 => ?_) (fun k k0 k1 => ?_) ?_
    · refine ⟨?_, ?_, ?_, ?_⟩ <;> · show zupd _ _ _ _ _ _ = _; rw [zu_a (by decide), zpu_o (by omega), hM, if_neg (by omega)]
    · refine ⟨?_, ?_, ?_, ?_⟩ <;> · show zupd _ _ _ _ _ _ = _; rw [zu_a (by decide), zpu_o (by omega), hM, if_pos (by omega), show 16 * p + (k : Int) - 1 = 16 * p + ((k : Int) - 1) by omega]
    · obtain ⟨a, b, c, d⟩ := zpu_at (μ := M m) (p := p) (k := i) (a := x) (b := s) (c := l) (d := 1) (q := 16 * p + i) (j := 0) rfl
      refine ⟨?_, ?_, ?_, ?_⟩
      · show zupd _ _ _ _ _ _ = _; rw [zu_a (by decide)]; exact a
      · show zupd _ _ _ _ _ _ = _; rw [zu_a (by decide)]; exact b
      · show zupd _ _ _ _ _ _ = _; rw [zu_a (by decide)]; exact c
      · show zupd _ _ _ _ _ _ = _; rw [zu_a (by decide)]; exact d
set_option maxHeartbeats 400000 in
theorem zlok_ins {N : Int} {L : List zEn} {i : Nat} {e : zEn} (h : zlok N L) (h16 : L.length < 16) (hi : i ≤ L.length) (he : zeok N e) (hne : ∀ a ∈ L, a.1 ≠ e.1) : zlok N (L.insertIdx i e) := by
  obtain ⟨h1, h2, h3⟩ := h
  have hp := List.perm_insertIdx e L hi
  refine ⟨?_, fun a ha => ?_, ?_⟩
  · rw [List.length_insertIdx_of_le_length hi]; omega
  · rcases (List.mem_cons.mp (hp.mem_iff.mp ha)) with rfl | q
    · exact he
    · exact h2 a q
  · rw [hp.pairwise_iff (fun q => q.symm)]
    exact List.pairwise_cons.mpr ⟨fun a ha q => hne a ha q.symm, h3⟩
set_option maxHeartbeats 400000 in
theorem c_append_f {μ : zMem} {p : Int} (h0 : 0 ≤ p) (h1 : p < 10) {L : List zEn} (hL : zpC μ p L) (h16 : L.length = 16) (s k l : Int) : fX6_append (zbP p) s k l μ = some (0, μ) := by
  have hs := hL.1
  rw [h16] at hs
  have hz : zbP p = 53 + 6 * p := rfl
  clear hL
  unfold fX6_append
  simp (disch := omega) only [↓gfP, gfP, hs, ↓zcall_ok, zcall_ok, ↓zjn_ok, zjn_ok, ↓zbl_0, zbl_0, ↓zbl_1, zbl_1, ↓if_pos, if_pos, ↓if_neg, if_neg, ↓zb_ite, zb_ite, ↓zb_itn, zb_itn, ↓gf_6, gf_6, ↓pf_6, pf_6, ↓vc_6, vc_6, if_true, if_false, not_true_eq_false, not_false_eq_true, zu_eq, zu_a, zu_j, ge_iff_le, gt_iff_lt, ne_eq, Int.cast_ofNat_Int, Int.add_zero, Int.zero_add, Int.reduceAdd, Int.reduceSub, Int.reduceMul, Int.reduceNeg]
set_option maxHeartbeats 400000 in
theorem zpl_L {μ : zMem} {p x : Int} {L : List zEn} (hL : zpC μ p L) (h : ¬ 0 ≤ zpl (μ (zbP p + 2)) x (μ (zbP p) 1).toNat 0) : ∀ a ∈ L, a.1 ≠ x := fun a ha => by
  obtain ⟨k, hk⟩ := List.mem_iff_getElem?.mp ha
  have hl := zgetL hk
  have h1 : zpl (μ (zbP p + 2)) x (μ (zbP p) 1).toNat 0 = -1 := by
    rcases zpl_in (f := μ (zbP p + 2)) (x := x) (μ (zbP p) 1).toNat 0 with q | q
    · exact q
    · omega
  have h2 := zpl_no _ 0 (by omega) h1 k (by omega) (by rw [hL.1]; omega)
  rw [(hL.2 k a hk).1] at h2
  exact h2
set_option maxHeartbeats 400000 in
theorem s11_hasR {μ : zMem} (hG : zG0 μ) {p : Int} (h0 : 0 ≤ p) (h1 : p < 10) {L : List zEn} (hR : zpR μ p L) (h16 : L.length ≤ 16) (x : Int) : fX11_has 129 p x μ = some (zb (0 ≤ zpl (fun k => μ 142 (16 * p + k)) x L.length 0), μ) := by
  have hs2 := hR.1
  have e : fX11_placeOf 129 p x μ = some (zpl (fun k => μ 142 (16 * p + k)) x L.length 0, μ) := by
    unfold fX11_placeOf
    refine zlp_meas (fun k (f : Int → zMem → zRs) => ∀ v d : Nat, v + d = L.length → d < k → f v μ = some (zpl (fun k => μ 142 (16 * p + k)) x d v, μ)) ?_ ?_ 1000000 0 L.length (Nat.zero_add _) (by omega)
    · intro v d _ h
      omega
    · intro k f ih v d hd hk
      cases d with
      | zero =>
        have hv : (v : Int) = L.length := by omega
        clear ih hR
        simp (disch := omega) only [hs2, ↓zcall_ok, zcall_ok, ↓zjn_ok, zjn_ok, ↓zbl_0, zbl_0, ↓zbl_1, zbl_1, ↓if_pos, if_pos, ↓if_neg, if_neg, ↓zb_ite, zb_ite, ↓zb_itn, zb_itn, ↓gf_129, gf_129, ↓pf_129, pf_129, ↓vc_129, vc_129, ↓al_141, al_141, ↓as_141, as_141, ↓ln_141, ln_141, if_true, if_false, not_true_eq_false, not_false_eq_true, zu_eq, zu_a, zu_j, ge_iff_le, gt_iff_lt, ne_eq, Int.cast_ofNat_Int, Int.add_zero, Int.zero_add, Int.reduceAdd, Int.reduceSub, Int.reduceMul, Int.reduceNeg, ↓gq_129_0 hG, ↓gq_129_1 hG, ↓gq_129_2 hG, ↓gq_129_3 hG, ↓gq_129_7 hG, ↓gq_129_10 hG, ↓gq_129_11 hG, ↓gq_129_12 hG, ↓gq_129_13 hG, ↓gq_129_19 hG, ↓gq_129_21 hG, ↓gq_129_22 hG, ↓gq_129_23 hG, ↓gq_129_24 hG, ↓gq_129_25 hG, ↓gq_129_26 hG, ↓gq_129_28 hG, ↓gq_129_29 hG, ↓gq_129_33 hG, ↓gq_129_34 hG, ↓gq_129_35 hG, ↓gq_129_36 hG, g_129_0 hG, g_129_1 hG, g_129_2 hG, g_129_3 hG, g_129_7 hG, g_129_10 hG, g_129_11 hG, g_129_12 hG, g_129_13 hG, g_129_19 hG, g_129_21 hG, g_129_22 hG, g_129_23 hG, g_129_24 hG, g_129_25 hG, g_129_26 hG, g_129_28 hG, g_129_29 hG, g_129_33 hG, g_129_34 hG, g_129_35 hG, g_129_36 hG]
        rfl
      | succ d =>
        have ih1 := ih (v + 1) d (by omega) (by omega)
        have hv : (v : Int) < L.length := by omega
        rw [zpl]
        by_cases hq : μ 142 (16 * p + v) = x
        · rw [if_pos hq]
          clear ih ih1 hR
          simp (disch := omega) only [hs2, zi16, hq, ↓zcall_ok, zcall_ok, ↓zjn_ok, zjn_ok, ↓zbl_0, zbl_0, ↓zbl_1, zbl_1, ↓if_pos, if_pos, ↓if_neg, if_neg, ↓zb_ite, zb_ite, ↓zb_itn, zb_itn, ↓gf_129, gf_129, ↓pf_129, pf_129, ↓vc_129, vc_129, ↓al_141, al_141, ↓as_141, as_141, ↓ln_141, ln_141, ↓al_142, al_142, ↓as_142, as_142, ↓ln_142, ln_142, if_true, if_false, not_true_eq_false, not_false_eq_true, zu_eq, zu_a, zu_j, ge_iff_le, gt_iff_lt, ne_eq, Int.cast_ofNat_Int, Int.add_zero, Int.zero_add, Int.reduceAdd, Int.reduceSub, Int.reduceMul, Int.reduceNeg, ↓gq_129_0 hG, ↓gq_129_1 hG, ↓gq_129_2 hG, ↓gq_129_3 hG, ↓gq_129_7 hG, ↓gq_129_10 hG, ↓gq_129_11 hG, ↓gq_129_12 hG, ↓gq_129_13 hG, ↓gq_129_19 hG, ↓gq_129_21 hG, ↓gq_129_22 hG, ↓gq_129_23 hG, ↓gq_129_24 hG, ↓gq_129_25 hG, ↓gq_129_26 hG, ↓gq_129_28 hG, ↓gq_129_29 hG, ↓gq_129_33 hG, ↓gq_129_34 hG, ↓gq_129_35 hG, ↓gq_129_36 hG, g_129_0 hG, g_129_1 hG, g_129_2 hG, g_129_3 hG, g_129_7 hG, g_129_10 hG, g_129_11 hG, g_129_12 hG, g_129_13 hG, g_129_19 hG, g_129_21 hG, g_129_22 hG, g_129_23 hG, g_129_24 hG, g_129_25 hG, g_129_26 hG, g_129_28 hG, g_129_29 hG, g_129_33 hG, g_129_34 hG, g_129_35 hG, g_129_36 hG]
        · rw [if_neg hq, show (v : Int) + 1 = ((v + 1 : Nat) : Int) by omega, ← ih1]
          clear ih ih1 hR
          simp (disch := omega) only [hs2, zi16, zuc, zw32_id, ↓zcall_ok, zcall_ok, ↓zjn_ok, zjn_ok, ↓zbl_0, zbl_0, ↓zbl_1, zbl_1, ↓if_pos, if_pos, ↓if_neg, if_neg, ↓zb_ite, zb_ite, ↓zb_itn, zb_itn, ↓gf_129, gf_129, ↓pf_129, pf_129, ↓vc_129, vc_129, ↓al_141, al_141, ↓as_141, as_141, ↓ln_141, ln_141, ↓al_142, al_142, ↓as_142, as_142, ↓ln_142, ln_142, if_true, if_false, not_true_eq_false, not_false_eq_true, zu_eq, zu_a, zu_j, ge_iff_le, gt_iff_lt, ne_eq, Int.cast_ofNat_Int, Int.add_zero, Int.zero_add, Int.reduceAdd, Int.reduceSub, Int.reduceMul, Int.reduceNeg, ↓gq_129_0 hG, ↓gq_129_1 hG, ↓gq_129_2 hG, ↓gq_129_3 hG, ↓gq_129_7 hG, ↓gq_129_10 hG, ↓gq_129_11 hG, ↓gq_129_12 hG, ↓gq_129_13 hG, ↓gq_129_19 hG, ↓gq_129_21 hG, ↓gq_129_22 hG, ↓gq_129_23 hG, ↓gq_129_24 hG, ↓gq_129_25 hG, ↓gq_129_26 hG, ↓gq_129_28 hG, ↓gq_129_29 hG, ↓gq_129_33 hG, ↓gq_129_34 hG, ↓gq_129_35 hG, ↓gq_129_36 hG, g_129_0 hG, g_129_1 hG, g_129_2 hG, g_129_3 hG, g_129_7 hG, g_129_10 hG, g_129_11 hG, g_129_12 hG, g_129_13 hG, g_129_19 hG, g_129_21 hG, g_129_22 hG, g_129_23 hG, g_129_24 hG, g_129_25 hG, g_129_26 hG, g_129_28 hG, g_129_29 hG, g_129_33 hG, g_129_34 hG, g_129_35 hG, g_129_36 hG]
  unfold fX11_has
  by_cases h : 0 ≤ zpl (fun k => μ 142 (16 * p + k)) x L.length 0
  · rw [zb_t h]
    simp (disch := omega) only [↓(vq_129 e), ↓zcall_ok, zcall_ok, ↓zjn_ok, zjn_ok, ↓zbl_0, zbl_0, ↓zbl_1, zbl_1, ↓if_pos, if_pos, ↓if_neg, if_neg, ↓zb_ite, zb_ite, ↓zb_itn, zb_itn, ↓gf_129, gf_129, ↓pf_129, pf_129, ↓vc_129, vc_129, if_true, if_false, not_true_eq_false, not_false_eq_true, zu_eq, zu_a, zu_j, ge_iff_le, gt_iff_lt, ne_eq, Int.cast_ofNat_Int, Int.add_zero, Int.zero_add, Int.reduceAdd, Int.reduceSub, Int.reduceMul, Int.reduceNeg, ↓gq_129_0 hG, ↓gq_129_1 hG, ↓gq_129_2 hG, ↓gq_129_3 hG, ↓gq_129_7 hG, ↓gq_129_10 hG, ↓gq_129_11 hG, ↓gq_129_12 hG, ↓gq_129_13 hG, ↓gq_129_19 hG, ↓gq_129_21 hG, ↓gq_129_22 hG, ↓gq_129_23 hG, ↓gq_129_24 hG, ↓gq_129_25 hG, ↓gq_129_26 hG, ↓gq_129_28 hG, ↓gq_129_29 hG, ↓gq_129_33 hG, ↓gq_129_34 hG, ↓gq_129_35 hG, ↓gq_129_36 hG, g_129_0 hG, g_129_1 hG, g_129_2 hG, g_129_3 hG, g_129_7 hG, g_129_10 hG, g_129_11 hG, g_129_12 hG, g_129_13 hG, g_129_19 hG, g_129_21 hG, g_129_22 hG, g_129_23 hG, g_129_24 hG, g_129_25 hG, g_129_26 hG, g_129_28 hG, g_129_29 hG, g_129_33 hG, g_129_34 hG, g_129_35 hG, g_129_36 hG]
  · rw [zb_f h]
    simp (disch := omega) only [↓(vq_129 e), ↓zcall_ok, zcall_ok, ↓zjn_ok, zjn_ok, ↓zbl_0, zbl_0, ↓zbl_1, zbl_1, ↓if_pos, if_pos, ↓if_neg, if_neg, ↓zb_ite, zb_ite, ↓zb_itn, zb_itn, ↓gf_129, gf_129, ↓pf_129, pf_129, ↓vc_129, vc_129, if_true, if_false, not_true_eq_false, not_false_eq_true, zu_eq, zu_a, zu_j, ge_iff_le, gt_iff_lt, ne_eq, Int.cast_ofNat_Int, Int.add_zero, Int.zero_add, Int.reduceAdd, Int.reduceSub, Int.reduceMul, Int.reduceNeg, ↓gq_129_0 hG, ↓gq_129_1 hG, ↓gq_129_2 hG, ↓gq_129_3 hG, ↓gq_129_7 hG, ↓gq_129_10 hG, ↓gq_129_11 hG, ↓gq_129_12 hG, ↓gq_129_13 hG, ↓gq_129_19 hG, ↓gq_129_21 hG, ↓gq_129_22 hG, ↓gq_129_23 hG, ↓gq_129_24 hG, ↓gq_129_25 hG, ↓gq_129_26 hG, ↓gq_129_28 hG, ↓gq_129_29 hG, ↓gq_129_33 hG, ↓gq_129_34 hG, ↓gq_129_35 hG, ↓gq_129_36 hG, g_129_0 hG, g_129_1 hG, g_129_2 hG, g_129_3 hG, g_129_7 hG, g_129_10 hG, g_129_11 hG, g_129_12 hG, g_129_13 hG, g_129_19 hG, g_129_21 hG, g_129_22 hG, g_129_23 hG, g_129_24 hG, g_129_25 hG, g_129_26 hG, g_129_28 hG, g_129_29 hG, g_129_33 hG, g_129_34 hG, g_129_35 hG, g_129_36 hG]
set_option maxHeartbeats 400000 in
theorem op_add {μ : zMem} (hG : zG0 μ) (hS : zGS μ) (hP : zGP μ) (p x i : Int) : ∃ r μ1 μ2, fX10_add 5 p x i μ = some (r, μ1) ∧ fX11_add 129 p x i μ1 = some (r, μ2) ∧ zGP μ2 := by
  have hPc := hP
  obtain ⟨⟨h0, h1, h2⟩, h3⟩ := hPc
  have hSc := hS
  obtain ⟨s0, s1, s2, s3, s4⟩ := hSc
  unfold fX10_add
  simp only [eX11_add]
  by_cases hp : 0 ≤ p ∧ p < μ 34 3
  rotate_left
  · have e1 : fX1_paper 34 p μ = some (-1, μ) := by rw [s1_paper hG h1, if_neg hp]
    refine ⟨-1, μ, μ, ?_, ?_, hP⟩
    · simp (disch := omega) only [↓(vq_34 e1), ↓zcall_ok, zcall_ok, ↓zjn_ok, zjn_ok, ↓zbl_0, zbl_0, ↓zbl_1, zbl_1, ↓if_pos, if_pos, ↓if_neg, if_neg, ↓zb_ite, zb_ite, ↓zb_itn, zb_itn, ↓gf_5, gf_5, ↓pf_5, pf_5, ↓vc_5, vc_5, ↓gf_34, gf_34, ↓pf_34, pf_34, ↓vc_34, vc_34, if_true, if_false, not_true_eq_false, not_false_eq_true, zu_eq, zu_a, zu_j, ge_iff_le, gt_iff_lt, ne_eq, Int.cast_ofNat_Int, Int.add_zero, Int.zero_add, Int.reduceAdd, Int.reduceSub, Int.reduceMul, Int.reduceNeg, ↓gq_5_0 hG, ↓gq_5_1 hG, ↓gq_5_2 hG, ↓gq_5_3 hG, ↓gq_5_4 hG, ↓gq_5_5 hG, ↓gq_5_6 hG, ↓gq_34_0 hG, ↓gq_34_1 hG, ↓gq_34_2 hG, g_5_0 hG, g_5_1 hG, g_5_2 hG, g_5_3 hG, g_5_4 hG, g_5_5 hG, g_5_6 hG, g_34_0 hG, g_34_1 hG, g_34_2 hG]
    · simp (disch := omega) only [↓(vq_129 (s11_isPaper hP p)), ↓zcall_ok, zcall_ok, ↓zjn_ok, zjn_ok, ↓zbl_0, zbl_0, ↓zbl_1, zbl_1, ↓if_pos, if_pos, ↓if_neg, if_neg, ↓zb_ite, zb_ite, ↓zb_itn, zb_itn, ↓gf_129, gf_129, ↓pf_129, pf_129, ↓vc_129, vc_129, if_true, if_false, not_true_eq_false, not_false_eq_true, zu_eq, zu_a, zu_j, ge_iff_le, gt_iff_lt, ne_eq, Int.cast_ofNat_Int, Int.add_zero, Int.zero_add, Int.reduceAdd, Int.reduceSub, Int.reduceMul, Int.reduceNeg, ↓gq_129_0 hG, ↓gq_129_1 hG, ↓gq_129_2 hG, ↓gq_129_3 hG, ↓gq_129_7 hG, ↓gq_129_10 hG, ↓gq_129_11 hG, ↓gq_129_12 hG, ↓gq_129_13 hG, ↓gq_129_19 hG, ↓gq_129_21 hG, ↓gq_129_22 hG, ↓gq_129_23 hG, ↓gq_129_24 hG, ↓gq_129_25 hG, ↓gq_129_26 hG, ↓gq_129_28 hG, ↓gq_129_29 hG, ↓gq_129_33 hG, ↓gq_129_34 hG, ↓gq_129_35 hG, ↓gq_129_36 hG, g_129_0 hG, g_129_1 hG, g_129_2 hG, g_129_3 hG, g_129_7 hG, g_129_10 hG, g_129_11 hG, g_129_12 hG, g_129_13 hG, g_129_19 hG, g_129_21 hG, g_129_22 hG, g_129_23 hG, g_129_24 hG, g_129_25 hG, g_129_26 hG, g_129_28 hG, g_129_29 hG, g_129_33 hG, g_129_34 hG, g_129_35 hG, g_129_36 hG]
  have hp10 : p < 10 := by omega
  have hz : zbP p = 53 + 6 * p := rfl
  have e1 : fX1_paper 34 p μ = some (zbP p, μ) := by rw [s1_paper hG h1, if_pos hp]
  have e1r := s11_isPaper hP p
  rw [zb_t hp] at e1r
  by_cases hx : 0 ≤ x ∧ x < μ 6 1
  rotate_left
  · refine ⟨-1, μ, μ, ?_, ?_, hP⟩
    · simp (disch := omega) only [↓(vq_34 e1), s5_has, zb_f, ↓zcall_ok, zcall_ok, ↓zjn_ok, zjn_ok, ↓zbl_0, zbl_0, ↓zbl_1, zbl_1, ↓if_pos, if_pos, ↓if_neg, if_neg, ↓zb_ite, zb_ite, ↓zb_itn, zb_itn, ↓gf_5, gf_5, ↓pf_5, pf_5, ↓vc_5, vc_5, ↓gf_6, gf_6, ↓pf_6, pf_6, ↓vc_6, vc_6, ↓gf_34, gf_34, ↓pf_34, pf_34, ↓vc_34, vc_34, if_true, if_false, not_true_eq_false, not_false_eq_true, zu_eq, zu_a, zu_j, ge_iff_le, gt_iff_lt, ne_eq, Int.cast_ofNat_Int, Int.add_zero, Int.zero_add, Int.reduceAdd, Int.reduceSub, Int.reduceMul, Int.reduceNeg, ↓gq_5_0 hG, ↓gq_5_1 hG, ↓gq_5_2 hG, ↓gq_5_3 hG, ↓gq_5_4 hG, ↓gq_5_5 hG, ↓gq_5_6 hG, ↓gq_6_0 hG, ↓gq_34_0 hG, ↓gq_34_1 hG, ↓gq_34_2 hG, g_5_0 hG, g_5_1 hG, g_5_2 hG, g_5_3 hG, g_5_4 hG, g_5_5 hG, g_5_6 hG, g_6_0 hG, g_34_0 hG, g_34_1 hG, g_34_2 hG]
    · simp (disch := omega) only [↓(vq_129 e1r), ↓(vq_129 (s11_isSaying hS x)), ↓zcall_ok, zcall_ok, ↓zjn_ok, zjn_ok, ↓zbl_0, zbl_0, ↓zbl_1, zbl_1, ↓if_pos, if_pos, ↓if_neg, if_neg, ↓zb_ite, zb_ite, ↓zb_itn, zb_itn, ↓gf_129, gf_129, ↓pf_129, pf_129, ↓vc_129, vc_129, if_true, if_false, not_true_eq_false, not_false_eq_true, zu_eq, zu_a, zu_j, ge_iff_le, gt_iff_lt, ne_eq, Int.cast_ofNat_Int, Int.add_zero, Int.zero_add, Int.reduceAdd, Int.reduceSub, Int.reduceMul, Int.reduceNeg, ↓gq_129_0 hG, ↓gq_129_1 hG, ↓gq_129_2 hG, ↓gq_129_3 hG, ↓gq_129_7 hG, ↓gq_129_10 hG, ↓gq_129_11 hG, ↓gq_129_12 hG, ↓gq_129_13 hG, ↓gq_129_19 hG, ↓gq_129_21 hG, ↓gq_129_22 hG, ↓gq_129_23 hG, ↓gq_129_24 hG, ↓gq_129_25 hG, ↓gq_129_26 hG, ↓gq_129_28 hG, ↓gq_129_29 hG, ↓gq_129_33 hG, ↓gq_129_34 hG, ↓gq_129_35 hG, ↓gq_129_36 hG, g_129_0 hG, g_129_1 hG, g_129_2 hG, g_129_3 hG, g_129_7 hG, g_129_10 hG, g_129_11 hG, g_129_12 hG, g_129_13 hG, g_129_19 hG, g_129_21 hG, g_129_22 hG, g_129_23 hG, g_129_24 hG, g_129_25 hG, g_129_26 hG, g_129_28 hG, g_129_29 hG, g_129_33 hG, g_129_34 hG, g_129_35 hG, g_129_36 hG]
  have e2r := s11_isSaying hS x
  rw [zb_t hx] at e2r
  have e2 : fX5_has 6 x μ = some (1, μ) := by rw [s5_has, zb_t hx]
  have hpp := h3 p hp.1 hp.2
  have e3 := s6_placeOf hG hp.1 hp10 ⟨hpp.1.1, hpp.1.2.1⟩ x
  have e3r := s11_has hG hp.1 hp10 hpp x
  obtain ⟨hC, hR, hok, hw⟩ := zPp_L hpp
  obtain ⟨L, hL⟩ : ∃ L, L = zLs μ p := ⟨_, rfl⟩
  rw [← hL] at hC hR hok
  have hlen := hok.1
  have e4 := s6_size (μ := μ) hp.1 hp10
  rw [hC.1] at e4
  have q141 := hR.1
  obtain ⟨pl, hpl⟩ : ∃ pl, pl = zpl (μ (zbP p + 2)) x (μ (zbP p) 1).toNat 0 := ⟨_, rfl⟩
  rw [← hpl] at e3 e3r
  by_cases hi : 0 ≤ i ∧ i ≤ (L.length : Int)
  rotate_left
  · refine ⟨-1, μ, μ, ?_, ?_, hP⟩
    · clear hC hR hok hw
      by_cases c1 : 0 ≤ pl
      · simp (disch := omega) only [↓(vq_34 e1), ↓(vq_6 e2), ↓(vcP_of hp.1 hp10 e3), ↓(vcP_of hp.1 hp10 e4), ↓zcall_ok, zcall_ok, ↓zjn_ok, zjn_ok, ↓zbl_0, zbl_0, ↓zbl_1, zbl_1, ↓if_pos, if_pos, ↓if_neg, if_neg, ↓zb_ite, zb_ite, ↓zb_itn, zb_itn, ↓gf_5, gf_5, ↓pf_5, pf_5, ↓vc_5, vc_5, ↓gf_6, gf_6, ↓pf_6, pf_6, ↓vc_6, vc_6, ↓gf_34, gf_34, ↓pf_34, pf_34, ↓vc_34, vc_34, if_true, if_false, not_true_eq_false, not_false_eq_true, zu_eq, zu_a, zu_j, ge_iff_le, gt_iff_lt, ne_eq, Int.cast_ofNat_Int, Int.add_zero, Int.zero_add, Int.reduceAdd, Int.reduceSub, Int.reduceMul, Int.reduceNeg, ↓gq_5_0 hG, ↓gq_5_1 hG, ↓gq_5_2 hG, ↓gq_5_3 hG, ↓gq_5_4 hG, ↓gq_5_5 hG, ↓gq_5_6 hG, ↓gq_6_0 hG, ↓gq_34_0 hG, ↓gq_34_1 hG, ↓gq_34_2 hG, g_5_0 hG, g_5_1 hG, g_5_2 hG, g_5_3 hG, g_5_4 hG, g_5_5 hG, g_5_6 hG, g_6_0 hG, g_34_0 hG, g_34_1 hG, g_34_2 hG]
      · by_cases c2 : i < 0
        · simp (disch := omega) only [↓(vq_34 e1), ↓(vq_6 e2), ↓(vcP_of hp.1 hp10 e3), ↓(vcP_of hp.1 hp10 e4), ↓zcall_ok, zcall_ok, ↓zjn_ok, zjn_ok, ↓zbl_0, zbl_0, ↓zbl_1, zbl_1, ↓if_pos, if_pos, ↓if_neg, if_neg, ↓zb_ite, zb_ite, ↓zb_itn, zb_itn, ↓gf_5, gf_5, ↓pf_5, pf_5, ↓vc_5, vc_5, ↓gf_6, gf_6, ↓pf_6, pf_6, ↓vc_6, vc_6, ↓gf_34, gf_34, ↓pf_34, pf_34, ↓vc_34, vc_34, if_true, if_false, not_true_eq_false, not_false_eq_true, zu_eq, zu_a, zu_j, ge_iff_le, gt_iff_lt, ne_eq, Int.cast_ofNat_Int, Int.add_zero, Int.zero_add, Int.reduceAdd, Int.reduceSub, Int.reduceMul, Int.reduceNeg, ↓gq_5_0 hG, ↓gq_5_1 hG, ↓gq_5_2 hG, ↓gq_5_3 hG, ↓gq_5_4 hG, ↓gq_5_5 hG, ↓gq_5_6 hG, ↓gq_6_0 hG, ↓gq_34_0 hG, ↓gq_34_1 hG, ↓gq_34_2 hG, g_5_0 hG, g_5_1 hG, g_5_2 hG, g_5_3 hG, g_5_4 hG, g_5_5 hG, g_5_6 hG, g_6_0 hG, g_34_0 hG, g_34_1 hG, g_34_2 hG]
        · simp (disch := omega) only [↓(vq_34 e1), ↓(vq_6 e2), ↓(vcP_of hp.1 hp10 e3), ↓(vcP_of hp.1 hp10 e4), ↓zcall_ok, zcall_ok, ↓zjn_ok, zjn_ok, ↓zbl_0, zbl_0, ↓zbl_1, zbl_1, ↓if_pos, if_pos, ↓if_neg, if_neg, ↓zb_ite, zb_ite, ↓zb_itn, zb_itn, ↓gf_5, gf_5, ↓pf_5, pf_5, ↓vc_5, vc_5, ↓gf_6, gf_6, ↓pf_6, pf_6, ↓vc_6, vc_6, ↓gf_34, gf_34, ↓pf_34, pf_34, ↓vc_34, vc_34, if_true, if_false, not_true_eq_false, not_false_eq_true, zu_eq, zu_a, zu_j, ge_iff_le, gt_iff_lt, ne_eq, Int.cast_ofNat_Int, Int.add_zero, Int.zero_add, Int.reduceAdd, Int.reduceSub, Int.reduceMul, Int.reduceNeg, ↓gq_5_0 hG, ↓gq_5_1 hG, ↓gq_5_2 hG, ↓gq_5_3 hG, ↓gq_5_4 hG, ↓gq_5_5 hG, ↓gq_5_6 hG, ↓gq_6_0 hG, ↓gq_34_0 hG, ↓gq_34_1 hG, ↓gq_34_2 hG, g_5_0 hG, g_5_1 hG, g_5_2 hG, g_5_3 hG, g_5_4 hG, g_5_5 hG, g_5_6 hG, g_6_0 hG, g_34_0 hG, g_34_1 hG, g_34_2 hG]
    · have e5 : fX11_within i 0 (L.length : Int) μ = some (0, μ) := by rw [s11_within, zb_f hi]
      clear hC hR hok hw
      simp (disch := omega) only [↓(vq_129 e1r), ↓(vq_129 e2r), q141, ↓(zcall_of e5), ↓zcall_ok, zcall_ok, ↓zjn_ok, zjn_ok, ↓zbl_0, zbl_0, ↓zbl_1, zbl_1, ↓if_pos, if_pos, ↓if_neg, if_neg, ↓zb_ite, zb_ite, ↓zb_itn, zb_itn, ↓gf_129, gf_129, ↓pf_129, pf_129, ↓vc_129, vc_129, ↓al_141, al_141, ↓as_141, as_141, ↓ln_141, ln_141, if_true, if_false, not_true_eq_false, not_false_eq_true, zu_eq, zu_a, zu_j, ge_iff_le, gt_iff_lt, ne_eq, Int.cast_ofNat_Int, Int.add_zero, Int.zero_add, Int.reduceAdd, Int.reduceSub, Int.reduceMul, Int.reduceNeg, ↓gq_129_0 hG, ↓gq_129_1 hG, ↓gq_129_2 hG, ↓gq_129_3 hG, ↓gq_129_7 hG, ↓gq_129_10 hG, ↓gq_129_11 hG, ↓gq_129_12 hG, ↓gq_129_13 hG, ↓gq_129_19 hG, ↓gq_129_21 hG, ↓gq_129_22 hG, ↓gq_129_23 hG, ↓gq_129_24 hG, ↓gq_129_25 hG, ↓gq_129_26 hG, ↓gq_129_28 hG, ↓gq_129_29 hG, ↓gq_129_33 hG, ↓gq_129_34 hG, ↓gq_129_35 hG, ↓gq_129_36 hG, g_129_0 hG, g_129_1 hG, g_129_2 hG, g_129_3 hG, g_129_7 hG, g_129_10 hG, g_129_11 hG, g_129_12 hG, g_129_13 hG, g_129_19 hG, g_129_21 hG, g_129_22 hG, g_129_23 hG, g_129_24 hG, g_129_25 hG, g_129_26 hG, g_129_28 hG, g_129_29 hG, g_129_33 hG, g_129_34 hG, g_129_35 hG, g_129_36 hG]
  have e5 : fX11_within i 0 (L.length : Int) μ = some (1, μ) := by rw [s11_within, zb_t hi]
  by_cases hq : 0 ≤ pl
  · rw [zb_t hq] at e3r
    refine ⟨-1, μ, μ, ?_, ?_, hP⟩
    · clear hC hR hok hw
      simp (disch := omega) only [↓(vq_34 e1), ↓(vq_6 e2), ↓(vcP_of hp.1 hp10 e3), ↓zcall_ok, zcall_ok, ↓zjn_ok, zjn_ok, ↓zbl_0, zbl_0, ↓zbl_1, zbl_1, ↓if_pos, if_pos, ↓if_neg, if_neg, ↓zb_ite, zb_ite, ↓zb_itn, zb_itn, ↓gf_5, gf_5, ↓pf_5, pf_5, ↓vc_5, vc_5, ↓gf_6, gf_6, ↓pf_6, pf_6, ↓vc_6, vc_6, ↓gf_34, gf_34, ↓pf_34, pf_34, ↓vc_34, vc_34, if_true, if_false, not_true_eq_false, not_false_eq_true, zu_eq, zu_a, zu_j, ge_iff_le, gt_iff_lt, ne_eq, Int.cast_ofNat_Int, Int.add_zero, Int.zero_add, Int.reduceAdd, Int.reduceSub, Int.reduceMul, Int.reduceNeg, ↓gq_5_0 hG, ↓gq_5_1 hG, ↓gq_5_2 hG, ↓gq_5_3 hG, ↓gq_5_4 hG, ↓gq_5_5 hG, ↓gq_5_6 hG, ↓gq_6_0 hG, ↓gq_34_0 hG, ↓gq_34_1 hG, ↓gq_34_2 hG, g_5_0 hG, g_5_1 hG, g_5_2 hG, g_5_3 hG, g_5_4 hG, g_5_5 hG, g_5_6 hG, g_6_0 hG, g_34_0 hG, g_34_1 hG, g_34_2 hG]
    · clear hC hR hok hw
      simp (disch := omega) only [↓(vq_129 e1r), ↓(vq_129 e2r), q141, ↓(zcall_of e5), ↓(vq_129 e3r), ↓zcall_ok, zcall_ok, ↓zjn_ok, zjn_ok, ↓zbl_0, zbl_0, ↓zbl_1, zbl_1, ↓if_pos, if_pos, ↓if_neg, if_neg, ↓zb_ite, zb_ite, ↓zb_itn, zb_itn, ↓gf_129, gf_129, ↓pf_129, pf_129, ↓vc_129, vc_129, ↓al_141, al_141, ↓as_141, as_141, ↓ln_141, ln_141, if_true, if_false, not_true_eq_false, not_false_eq_true, zu_eq, zu_a, zu_j, ge_iff_le, gt_iff_lt, ne_eq, Int.cast_ofNat_Int, Int.add_zero, Int.zero_add, Int.reduceAdd, Int.reduceSub, Int.reduceMul, Int.reduceNeg, ↓gq_129_0 hG, ↓gq_129_1 hG, ↓gq_129_2 hG, ↓gq_129_3 hG, ↓gq_129_7 hG, ↓gq_129_10 hG, ↓gq_129_11 hG, ↓gq_129_12 hG, ↓gq_129_13 hG, ↓gq_129_19 hG, ↓gq_129_21 hG, ↓gq_129_22 hG, ↓gq_129_23 hG, ↓gq_129_24 hG, ↓gq_129_25 hG, ↓gq_129_26 hG, ↓gq_129_28 hG, ↓gq_129_29 hG, ↓gq_129_33 hG, ↓gq_129_34 hG, ↓gq_129_35 hG, ↓gq_129_36 hG, g_129_0 hG, g_129_1 hG, g_129_2 hG, g_129_3 hG, g_129_7 hG, g_129_10 hG, g_129_11 hG, g_129_12 hG, g_129_13 hG, g_129_19 hG, g_129_21 hG, g_129_22 hG, g_129_23 hG, g_129_24 hG, g_129_25 hG, g_129_26 hG, g_129_28 hG, g_129_29 hG, g_129_33 hG, g_129_34 hG, g_129_35 hG, g_129_36 hG]
  rw [zb_f hq] at e3r
  have hnot := zpl_L hC (x := x) (by rw [← hpl]; exact hq)
  obtain ⟨s, hs⟩ : ∃ s, s = μ 9 x := ⟨_, rfl⟩
  obtain ⟨l, hl⟩ : ∃ l, l = μ 11 x := ⟨_, rfl⟩
  have ps : fX5_part 6 x 1 μ = some (s, μ) := by rw [s5_part hG s1, if_pos ⟨hx.1, hx.2, by decide, by decide⟩, hs]; rfl
  have pl2 : fX5_part 6 x 3 μ = some (l, μ) := by rw [s5_part hG s1, if_pos ⟨hx.1, hx.2, by decide, by decide⟩, hl]; rfl
  by_cases hfull : L.length = 16
  · have ea := c_append_f hp.1 hp10 hC hfull x s l
    refine ⟨-3, μ, μ, ?_, ?_, hP⟩
    · clear hC hR hok hw
      simp (disch := omega) only [↓(vq_34 e1), ↓(vq_6 e2), ↓(vcP_of hp.1 hp10 e3), ↓(vcP_of hp.1 hp10 e4), ↓(vq_6 ps), ↓(vq_6 pl2), ↓(vcP_of hp.1 hp10 ea), ↓zcall_ok, zcall_ok, ↓zjn_ok, zjn_ok, ↓zbl_0, zbl_0, ↓zbl_1, zbl_1, ↓if_pos, if_pos, ↓if_neg, if_neg, ↓zb_ite, zb_ite, ↓zb_itn, zb_itn, ↓gf_5, gf_5, ↓pf_5, pf_5, ↓vc_5, vc_5, ↓gf_6, gf_6, ↓pf_6, pf_6, ↓vc_6, vc_6, ↓gf_34, gf_34, ↓pf_34, pf_34, ↓vc_34, vc_34, if_true, if_false, not_true_eq_false, not_false_eq_true, zu_eq, zu_a, zu_j, ge_iff_le, gt_iff_lt, ne_eq, Int.cast_ofNat_Int, Int.add_zero, Int.zero_add, Int.reduceAdd, Int.reduceSub, Int.reduceMul, Int.reduceNeg, ↓gq_5_0 hG, ↓gq_5_1 hG, ↓gq_5_2 hG, ↓gq_5_3 hG, ↓gq_5_4 hG, ↓gq_5_5 hG, ↓gq_5_6 hG, ↓gq_6_0 hG, ↓gq_34_0 hG, ↓gq_34_1 hG, ↓gq_34_2 hG, g_5_0 hG, g_5_1 hG, g_5_2 hG, g_5_3 hG, g_5_4 hG, g_5_5 hG, g_5_6 hG, g_6_0 hG, g_34_0 hG, g_34_1 hG, g_34_2 hG]
    · have q16 : μ 141 p = 16 := by rw [q141, hfull]; rfl
      rw [hfull] at e5
      clear hC hR hok hw q141
      have e5' : fX11_within i 0 16 μ = some (1, μ) := e5
      simp (disch := omega) only [↓(vq_129 e1r), ↓(vq_129 e2r), q16, ↓(zcall_of e5'), ↓(vq_129 e3r), ↓zcall_ok, zcall_ok, ↓zjn_ok, zjn_ok, ↓zbl_0, zbl_0, ↓zbl_1, zbl_1, ↓if_pos, if_pos, ↓if_neg, if_neg, ↓zb_ite, zb_ite, ↓zb_itn, zb_itn, ↓gf_129, gf_129, ↓pf_129, pf_129, ↓vc_129, vc_129, ↓al_141, al_141, ↓as_141, as_141, ↓ln_141, ln_141, if_true, if_false, not_true_eq_false, not_false_eq_true, zu_eq, zu_a, zu_j, ge_iff_le, gt_iff_lt, ne_eq, Int.cast_ofNat_Int, Int.add_zero, Int.zero_add, Int.reduceAdd, Int.reduceSub, Int.reduceMul, Int.reduceNeg, ↓gq_129_0 hG, ↓gq_129_1 hG, ↓gq_129_2 hG, ↓gq_129_3 hG, ↓gq_129_7 hG, ↓gq_129_10 hG, ↓gq_129_11 hG, ↓gq_129_12 hG, ↓gq_129_13 hG, ↓gq_129_19 hG, ↓gq_129_21 hG, ↓gq_129_22 hG, ↓gq_129_23 hG, ↓gq_129_24 hG, ↓gq_129_25 hG, ↓gq_129_26 hG, ↓gq_129_28 hG, ↓gq_129_29 hG, ↓gq_129_33 hG, ↓gq_129_34 hG, ↓gq_129_35 hG, ↓gq_129_36 hG, g_129_0 hG, g_129_1 hG, g_129_2 hG, g_129_3 hG, g_129_7 hG, g_129_10 hG, g_129_11 hG, g_129_12 hG, g_129_13 hG, g_129_19 hG, g_129_21 hG, g_129_22 hG, g_129_23 hG, g_129_24 hG, g_129_25 hG, g_129_26 hG, g_129_28 hG, g_129_29 hG, g_129_33 hG, g_129_34 hG, g_129_35 hG, g_129_36 hG]
  have hlt : L.length < 16 := by omega
  obtain ⟨n, hn⟩ : ∃ n : Nat, i = n := ⟨i.toNat, by omega⟩
  subst hn
  obtain ⟨ν1, a1, a2, a3⟩ := c_append hG hp.1 hp10 hC hlt x s l
  have hG1 := zoC_G0 hp.1 hp10 a3 hG
  have hget : (L ++ [(x, s, l, 0)])[L.length]? = some (x, s, l, 0) := by
    rw [List.getElem?_append, if_neg (by omega), Nat.sub_self]
    rfl
  have b1 := c_mark hG1 hp.1 hp10 a2 (by rw [List.length_append]; simp; omega) hget
  obtain ⟨b2, b3⟩ := c_set a2 hget (w := 3) (v := 1) (by decide) (by decide)
  have hset : (L ++ [(x, s, l, (0 : Int))]).set L.length (zse 3 1 (x, s, l, 0)) = L ++ [(x, s, l, 1)] := by
    rw [List.set_append_right _ _ (Nat.le_refl _), Nat.sub_self]
    rfl
  rw [hset] at b2
  obtain ⟨ν2, hν2⟩ : ∃ ν2, ν2 = zupd ν1 (zbP p + 2 + 3) (L.length : Int) 1 := ⟨_, rfl⟩
  rw [← hν2] at b1 b2 b3
  have hG2 := zoC_G0 hp.1 hp10 b3 hG1
  have hget2 : (L ++ [(x, s, l, (1 : Int))])[L.length]? = some (x, s, l, 1) := by
    rw [List.getElem?_append, if_neg (by omega), Nat.sub_self]
    rfl
  obtain ⟨ν3, c1, c2, c3⟩ := c_moveL hG2 hp.1 hp10 b2 (by rw [List.length_append]; simp; omega) hget2 (t := n) (by rw [List.length_append]; simp; omega)
  have her : (L ++ [(x, s, l, (1 : Int))]).eraseIdx L.length = L := by
    rw [List.eraseIdx_append_of_length_le (Nat.le_refl _), Nat.sub_self]
    simp
  rw [her] at c2
  have hfC := zoC_t (zoC_t a3 b3) c3
  have hG3 := zoC_G0 hp.1 hp10 c3 hG2
  have hR3 := zpR_C hR hfC hp.1 hp10
  have k130 : ∀ j, ν3 130 j = μ 130 j := fun j => hfC _ _ (by omega) (by omega)
  have g1 : ν3 130 (16 + x) = s := by
    rw [k130, hs]
    have := s3 1 x (by decide) (by decide) hx.1 (by omega)
    exact this
  have g2 : ν3 130 (48 + x) = l := by
    rw [k130, hl]
    have := s3 3 x (by decide) (by decide) hx.1 (by omega)
    exact this
  obtain ⟨μ2, r1, r2, r3⟩ := r_add_1 hG3 hp.1 hp10 hR3 hlt (zlok_01 hok) hx.1 (by omega) g1 g2 (i := n) (by omega)
  have t1 := s6_size (μ := ν1) hp.1 hp10
  rw [a2.1] at t1
  have t2 := s6_size (μ := ν2) hp.1 hp10
  rw [b2.1] at t2
  have t3 := s6_size (μ := ν3) hp.1 hp10
  rw [c2.1] at t3
  have l1 : (((L ++ [(x, s, l, (0 : Int))]).length : Nat) : Int) = (L.length : Int) + 1 := by simp
  have l2 : (((L ++ [(x, s, l, (1 : Int))]).length : Nat) : Int) = (L.length : Int) + 1 := by simp
  have l3 : (((L.insertIdx n (x, s, l, (1 : Int))).length : Nat) : Int) = (L.length : Int) + 1 := by
    rw [List.length_insertIdx_of_le_length (by omega)]
    omega
  rw [l1] at t1
  rw [l2] at t2
  rw [l3] at t3
  refine ⟨(L.length : Int) + 1, ν3, μ2, ?_, ?_, ?_⟩
  · have hz1 : zw32 ((L.length : Int) + 1 - 1) = L.length := by rw [zw32_id (by omega) (by omega)]; omega
    have hil : ((n : Nat) : Int) ≤ L.length := hi.2
    have hnn : ¬ ((n : Nat) : Int) < 0 := by omega
    have hpn : ¬ zbP p = -1 := by omega
    rw [gq_5_4 hG, vq_34 e1, if_neg hpn, gq_5_0 hG, vq_6 e2, if_neg (by decide), vcP_of hp.1 hp10 e3, if_neg hq, if_neg hnn, vcP_of hp.1 hp10 e4, if_pos hil, gq_5_0 hG, vq_6 ps, gq_5_0 hG, vq_6 pl2, vcP_of hp.1 hp10 a1, if_pos (by decide), vcP_of hp.1 hp10 t1, hz1, vcP_of hp.1 hp10 b1, vcP_of hp.1 hp10 t2, hz1, vcP_of hp.1 hp10 c1, vcP_of hp.1 hp10 t3]
  · have q20 : ν3 129 20 = μ 34 3 := (hfC _ _ (by omega) (by omega)).trans h2
    have q6 : ν3 129 6 = μ 6 1 := (hfC _ _ (by omega) (by omega)).trans s2
    have f1 := r_isPaper q20 h0 h1 p
    rw [zb_t hp] at f1
    have f2 := r_isSaying q6 s0 s1 x
    rw [zb_t hx] at f2
    have f3 : ν3 141 p = L.length := hR3.1
    have f4 : fX11_within n 0 (L.length : Int) ν3 = some (1, ν3) := by rw [s11_within, zb_t hi]
    have hRr : zoR p μ μ := zoR_r
    have f5 : fX11_has 129 p x ν3 = some (0, ν3) := by
      have z1 := s11_hasR hG3 hp.1 hp10 hR3 hlen x
      rw [z1]
      congr 2
      refine zb_f (fun z => ?_)
      rcases zpl_in (f := fun k => ν3 142 (16 * p + k)) (x := x) L.length 0 with y | ⟨y1, y2, y3⟩
      · rw [y] at z; omega
      · obtain ⟨k, hk⟩ : ∃ k : Nat, zpl (fun k => ν3 142 (16 * p + k)) x L.length 0 = k := ⟨_, (Int.toNat_of_nonneg z).symm⟩
        rw [hk] at y1 y2 y3
        obtain ⟨e, he⟩ := zgetE (L := L) (k := k) (by omega)
        have := (hR3.2 k e he).1
        exact hnot e (List.mem_of_getElem? he) (this.symm.trans y3)
    have hne16 : ¬ (L.length : Int) = 16 := by omega
    clear c1 c2 c3 a1 a2 a3 b1 b2 b3 r2 r3 hC hR hR3 hok hw hfC hnot
    simp (disch := omega) only [g_129_22 hG3, ↓(vq_129 f1), ↓(vq_129 f2), f3, ↓(zcall_of f4), ↓(vq_129 f5), r1, ↓zcall_ok, zcall_ok, ↓zjn_ok, zjn_ok, ↓zbl_0, zbl_0, ↓zbl_1, zbl_1, ↓if_pos, if_pos, ↓if_neg, if_neg, ↓zb_ite, zb_ite, ↓zb_itn, zb_itn, ↓gf_129, gf_129, ↓pf_129, pf_129, ↓vc_129, vc_129, ↓al_141, al_141, ↓as_141, as_141, ↓ln_141, ln_141, if_true, if_false, not_true_eq_false, not_false_eq_true, zu_eq, zu_a, zu_j, ge_iff_le, gt_iff_lt, ne_eq, Int.cast_ofNat_Int, Int.add_zero, Int.zero_add, Int.reduceAdd, Int.reduceSub, Int.reduceMul, Int.reduceNeg]
  · refine zGP_upd hP hp.1 hp10 (zoP_t (zoP_C hfC) (zoP_R r3)) (n := μ 34 3) ⟨?_, ?_, h0, h1⟩ (fun q _ q1 _ => q1) (zPp_of (zpC_R c2 r3 hp.1 hp10) r2 (zlok_ins hok hlt (by omega) ?_ hnot) ?_)
    · exact (r3 _ _ (by omega) (by omega)).trans (hfC _ _ (by omega) (by omega))
    · exact (r3 _ _ (by omega) (by omega)).trans ((hfC _ _ (by omega) (by omega)).trans h2)
    · have z1 := s4 1 x (by decide) (by decide) hx.1 hx.2
      have z3 := s4 3 x (by decide) (by decide) hx.1 hx.2
      rw [show (8 : Int) + 1 = 9 by decide, ← hs] at z1
      rw [show (8 : Int) + 3 = 11 by decide, ← hl] at z3
      unfold zfit at z1 z3
      exact ⟨hx, by show 0 ≤ s ∧ s ≤ 3; omega, by show 0 ≤ l ∧ l ≤ 999; omega, (by decide : (0 : Int) ≤ 1), (by decide : (1 : Int) ≤ 1)⟩
    · have w1 : μ2 140 p = μ 140 p := (r3 _ _ (by omega) (by omega)).trans (hfC _ _ (by omega) (by omega))
      have w2 : μ2 (zbP p) 2 = μ (zbP p) 2 := (r3 _ _ (by omega) (by omega)).trans (hfC _ _ (by omega) (by omega))
      rw [w1, w2]
      exact hw
