theorem r_mends {A K : Int} (hK : 0 ≤ K ∧ K < 8) : ∀ (n : Nat), 4 ≤ n → ∀ (k x c : Int) (u : zMem), 0 ≤ k → k < 8 → zHR A K c u → c ≤ 800 → gX11_mendsAs n 129 k x u = some (meV K k x A, zfR (meT K k) u) := by
  have b0 : ∀ (n : Nat) (k x c : Int) (u : zMem), ¬ k = 5 → ¬ k = 3 → zHR A K c u → c ≤ 1000 → gX11_mendsAs (n + 1) 129 k x u = some (zxor x A, znR 11 u) := by
    intro n k x c u hk hk2 h hc
    have hA := (zHR_n (n := 11) h).2.1
    rw [show gX11_mendsAs (n + 1) = gX11_mendsAs_b0 (gX11_mendsAs n) from rfl]
    unfold gX11_mendsAs_b0
    simp (disch := omega) only [↓(vq_129 (s11_begins h (n := 11) (by omega))), hA, ↓zcall_ok, zcall_ok, ↓zjn_ok, zjn_ok, ↓zbl_0, zbl_0, ↓zbl_1, zbl_1, ↓if_pos, if_pos, ↓if_neg, if_neg, ↓zb_ite, zb_ite, ↓zb_itn, zb_itn, ↓gf_129, gf_129, ↓pf_129, pf_129, ↓vc_129, vc_129, if_true, if_false, not_true_eq_false, not_false_eq_true, zu_eq, zu_a, zu_j, ge_iff_le, gt_iff_lt, ne_eq, Int.cast_ofNat_Int, Int.add_zero, Int.zero_add, Int.reduceAdd, Int.reduceSub, Int.reduceMul, Int.reduceNeg]
  have b3 : ∀ (n : Nat) (x c : Int) (u : zMem), zHR A K c u → c ≤ 900 → gX11_mendsAs (n + 1 + 1) 129 3 x u = some (zw32 (zxor x A * 3), znR 11 (znR 40 u)) := by
    intro n x c u h hc
    have e := b0 n 1 x (c + 1) (znR 40 u) (by omega) (by omega) (zHR_n h) (by omega)
    rw [show gX11_mendsAs (n + 1 + 1) = gX11_mendsAs_b0 (gX11_mendsAs (n + 1)) from rfl]
    unfold gX11_mendsAs_b0
    simp (disch := omega) only [↓(vq_129 (s11_begins h (n := 40) (by omega))), ↓(vq_129 e), ↓zcall_ok, zcall_ok, ↓zjn_ok, zjn_ok, ↓zbl_0, zbl_0, ↓zbl_1, zbl_1, ↓if_pos, if_pos, ↓if_neg, if_neg, ↓zb_ite, zb_ite, ↓zb_itn, zb_itn, ↓gf_129, gf_129, ↓pf_129, pf_129, ↓vc_129, vc_129, if_true, if_false, not_true_eq_false, not_false_eq_true, zu_eq, zu_a, zu_j, ge_iff_le, gt_iff_lt, ne_eq, Int.cast_ofNat_Int, Int.add_zero, Int.zero_add, Int.reduceAdd, Int.reduceSub, Int.reduceMul, Int.reduceNeg]
  intro n hn k x c u k0 k1 h hc
  obtain ⟨m, rfl⟩ : ∃ m, n = m + 1 + 1 + 1 := ⟨n - 3, by omega⟩
  unfold meV meT
  by_cases h5 : k = 5
  · rw [if_pos h5, if_pos h5]
    have e := b3 m x (c + 1) (znR 60 u) (zHR_n h) (by omega)
    have h3 := zHR_n (n := 11) (zHR_n (n := 40) (zHR_n (n := 60) h))
    have hK3 := h3.2.2.1
    have s : fX11_saysAs 129 K 2 (znR 11 (znR 40 (znR 60 u))) = _ := r_says 200 (by omega) K 2 _ _ hK.1 hK.2 h3 (by omega)
    rw [show gX11_mendsAs (m + 1 + 1 + 1) = gX11_mendsAs_b0 (gX11_mendsAs (m + 1 + 1)) from rfl]
    unfold gX11_mendsAs_b0
    simp (disch := omega) only [↓(vq_129 (s11_begins h (n := 60) (by omega))), ↓(vq_129 e), hK3, ↓(vq_129 s), ↓zcall_ok, zcall_ok, ↓zjn_ok, zjn_ok, ↓zbl_0, zbl_0, ↓zbl_1, zbl_1, ↓if_pos, if_pos, ↓if_neg, if_neg, ↓zb_ite, zb_ite, ↓zb_itn, zb_itn, ↓gf_129, gf_129, ↓pf_129, pf_129, ↓vc_129, vc_129, if_true, if_false, not_true_eq_false, not_false_eq_true, zu_eq, zu_a, zu_j, ge_iff_le, gt_iff_lt, ne_eq, Int.cast_ofNat_Int, Int.add_zero, Int.zero_add, Int.reduceAdd, Int.reduceSub, Int.reduceMul, Int.reduceNeg]
    rw [zfR_app]
    rfl
  · rw [if_neg h5, if_neg h5]
    by_cases h3 : k = 3
    · rw [if_pos h3, if_pos h3, h3, b3 (m + 1) x c u h (by omega)]
      rfl
    · rw [if_neg h3, if_neg h3, b0 (m + 1 + 1) k x c u h5 h3 h (by omega)]
      rfl
theorem r_takes {A K : Int} (hK : 0 ≤ K ∧ K < 8) : ∀ (n : Nat), 4 ≤ n → ∀ (k x c : Int) (u : zMem), 0 ≤ k → k < 8 → zHR A K c u → c ≤ 700 → gX11_takesAs n 129 k x u = some (taV K k x A, zfR (taT K k) u) := by
  have b0 : ∀ (n : Nat) (k x c : Int) (u : zMem), ¬ k = 7 → ¬ k = 2 → ¬ k = 3 → ¬ k = 5 → zHR A K c u → c ≤ 800 → gX11_takesAs (n + 1) 129 k x u = some (tbV K x A, zfR (saT K) (znR 10 u)) := by
    intro n k x c u a1 a2 a3 a4 h hc
    have hn := zHR_n (n := 10) h
    have hKn := hn.2.2.1
    have s : fX11_saysAs 129 K x (znR 10 u) = _ := r_says 200 (by omega) K x _ _ hK.1 hK.2 hn (by omega)
    rw [show gX11_takesAs (n + 1) = gX11_takesAs_b0 (gX11_takesAs n) from rfl]
    unfold gX11_takesAs_b0
    simp (disch := omega) only [↓(vq_129 (s11_begins h (n := 10) (by omega))), hKn, ↓(vq_129 s), ↓zcall_ok, zcall_ok, ↓zjn_ok, zjn_ok, ↓zbl_0, zbl_0, ↓zbl_1, zbl_1, ↓if_pos, if_pos, ↓if_neg, if_neg, ↓zb_ite, zb_ite, ↓zb_itn, zb_itn, ↓gf_129, gf_129, ↓pf_129, pf_129, ↓vc_129, vc_129, if_true, if_false, not_true_eq_false, not_false_eq_true, zu_eq, zu_a, zu_j, ge_iff_le, gt_iff_lt, ne_eq, Int.cast_ofNat_Int, Int.add_zero, Int.zero_add, Int.reduceAdd, Int.reduceSub, Int.reduceMul, Int.reduceNeg]
    rfl
  have b2 : ∀ (n : Nat) (x c : Int) (u : zMem), zHR A K c u → c ≤ 750 → gX11_takesAs (n + 1 + 1) 129 2 x u = some (zw32 (-tbV K x A), zfR (saT K) (znR 10 (znR 30 u))) := by
    intro n x c u h hc
    have e := b0 n 1 x (c + 1) (znR 30 u) (by omega) (by omega) (by omega) (by omega) (zHR_n h) (by omega)
    rw [show gX11_takesAs (n + 1 + 1) = gX11_takesAs_b0 (gX11_takesAs (n + 1)) from rfl]
    unfold gX11_takesAs_b0
    simp (disch := omega) only [↓(vq_129 (s11_begins h (n := 30) (by omega))), ↓(vq_129 e), ↓zcall_ok, zcall_ok, ↓zjn_ok, zjn_ok, ↓zbl_0, zbl_0, ↓zbl_1, zbl_1, ↓if_pos, if_pos, ↓if_neg, if_neg, ↓zb_ite, zb_ite, ↓zb_itn, zb_itn, ↓gf_129, gf_129, ↓pf_129, pf_129, ↓vc_129, vc_129, if_true, if_false, not_true_eq_false, not_false_eq_true, zu_eq, zu_a, zu_j, ge_iff_le, gt_iff_lt, ne_eq, Int.cast_ofNat_Int, Int.add_zero, Int.zero_add, Int.reduceAdd, Int.reduceSub, Int.reduceMul, Int.reduceNeg]
  intro n hn k x c u k0 k1 h hc
  obtain ⟨m, rfl⟩ : ∃ m, n = m + 1 + 1 + 1 := ⟨n - 3, by omega⟩
  unfold taV taT
  by_cases h7 : k = 7
  · rw [if_pos h7, if_pos h7]
    have e := b2 m x (c + 1) (znR 80 u) (zHR_n h) (by omega)
    have h3 := zHR_f (saT K) _ _ (zHR_n (n := 10) (zHR_n (n := 30) (zHR_n (n := 80) h)))
    have hl := saT_len K
    have hK3 := h3.2.2.1
    have s : fX11_mendsAs 129 K 2 (zfR (saT K) (znR 10 (znR 30 (znR 80 u)))) = _ := r_mends hK 200 (by omega) K 2 _ _ hK.1 hK.2 h3 (by omega)
    rw [show gX11_takesAs (m + 1 + 1 + 1) = gX11_takesAs_b0 (gX11_takesAs (m + 1 + 1)) from rfl]
    unfold gX11_takesAs_b0
    simp (disch := omega) only [↓(vq_129 (s11_begins h (n := 80) (by omega))), ↓(vq_129 e), hK3, ↓(vq_129 s), ↓zcall_ok, zcall_ok, ↓zjn_ok, zjn_ok, ↓zbl_0, zbl_0, ↓zbl_1, zbl_1, ↓if_pos, if_pos, ↓if_neg, if_neg, ↓zb_ite, zb_ite, ↓zb_itn, zb_itn, ↓gf_129, gf_129, ↓pf_129, pf_129, ↓vc_129, vc_129, if_true, if_false, not_true_eq_false, not_false_eq_true, zu_eq, zu_a, zu_j, ge_iff_le, gt_iff_lt, ne_eq, Int.cast_ofNat_Int, Int.add_zero, Int.zero_add, Int.reduceAdd, Int.reduceSub, Int.reduceMul, Int.reduceNeg]
    rw [zfR_app, zfR_app]
    rfl
  rw [if_neg h7, if_neg h7]
  by_cases h2 : k = 2
  · rw [if_pos h2, if_pos h2, h2, b2 (m + 1) x c u h (by omega), zfR_app]
    rfl
  rw [if_neg h2, if_neg h2]
  by_cases h3 : k = 3 ∨ k = 5
  · rw [if_pos h3, if_pos h3]
    have e := b0 (m + 1) 1 (zw32 (x + 1)) (c + 1) (znR 41 u) (by omega) (by omega) (by omega) (by omega) (zHR_n h) (by omega)
    rw [show gX11_takesAs (m + 1 + 1 + 1) = gX11_takesAs_b0 (gX11_takesAs (m + 1 + 1)) from rfl]
    unfold gX11_takesAs_b0
    rw [zfR_app]
    rcases h3 with rfl | rfl
    · simp (disch := omega) only [↓(vq_129 (s11_begins h (n := 41) (by omega))), ↓(vq_129 e), ↓zcall_ok, zcall_ok, ↓zjn_ok, zjn_ok, ↓zbl_0, zbl_0, ↓zbl_1, zbl_1, ↓if_pos, if_pos, ↓if_neg, if_neg, ↓zb_ite, zb_ite, ↓zb_itn, zb_itn, ↓gf_129, gf_129, ↓pf_129, pf_129, ↓vc_129, vc_129, if_true, if_false, not_true_eq_false, not_false_eq_true, zu_eq, zu_a, zu_j, ge_iff_le, gt_iff_lt, ne_eq, Int.cast_ofNat_Int, Int.add_zero, Int.zero_add, Int.reduceAdd, Int.reduceSub, Int.reduceMul, Int.reduceNeg]
      rfl
    · simp (disch := omega) only [↓(vq_129 (s11_begins h (n := 41) (by omega))), ↓(vq_129 e), ↓zcall_ok, zcall_ok, ↓zjn_ok, zjn_ok, ↓zbl_0, zbl_0, ↓zbl_1, zbl_1, ↓if_pos, if_pos, ↓if_neg, if_neg, ↓zb_ite, zb_ite, ↓zb_itn, zb_itn, ↓gf_129, gf_129, ↓pf_129, pf_129, ↓vc_129, vc_129, if_true, if_false, not_true_eq_false, not_false_eq_true, zu_eq, zu_a, zu_j, ge_iff_le, gt_iff_lt, ne_eq, Int.cast_ofNat_Int, Int.add_zero, Int.zero_add, Int.reduceAdd, Int.reduceSub, Int.reduceMul, Int.reduceNeg]
      rfl
  · rw [if_neg h3, if_neg h3, b0 (m + 1 + 1) k x c u h7 h2 (by omega) (by omega) h (by omega), zfR_app]
    rfl
theorem r_joins {A K : Int} (hK : 0 ≤ K ∧ K < 8) : ∀ (n : Nat), 4 ≤ n → ∀ (k x c : Int) (u : zMem), 0 ≤ k → k < 8 → zHR A K c u → c ≤ 600 → gX11_joinsAs n 129 k x u = some (joV K k x A, zfR (joT K k) u) := by
  have b0 : ∀ (n : Nat) (k x c : Int) (u : zMem), ¬ k = 4 → ¬ k = 5 → ¬ k = 7 → zHR A K c u → c ≤ 650 → gX11_joinsAs (n + 1) 129 k x u = some (jbV K x A, zfR ([2] ++ taT K K ++ meT K K) u) := by
    intro n k x c u a1 a2 a3 h hc
    have hn := zHR_n (n := 2) h
    have hKn := hn.2.2.1
    have s : fX11_takesAs 129 K x (znR 2 u) = _ := r_takes hK 200 (by omega) K x _ _ hK.1 hK.2 hn (by omega)
    have hm := zHR_f (taT K K) _ _ hn
    have hKm := hm.2.2.1
    have hl := taT_len K K
    have s2 : fX11_mendsAs 129 K 1 (zfR (taT K K) (znR 2 u)) = _ := r_mends hK 200 (by omega) K 1 _ _ hK.1 hK.2 hm (by omega)
    rw [show gX11_joinsAs (n + 1) = gX11_joinsAs_b0 (gX11_joinsAs n) from rfl]
    unfold gX11_joinsAs_b0
    simp (disch := omega) only [↓(vq_129 (s11_begins h (n := 2) (by omega))), hKn, ↓(vq_129 s), hKm, ↓(vq_129 s2), ↓zcall_ok, zcall_ok, ↓zjn_ok, zjn_ok, ↓zbl_0, zbl_0, ↓zbl_1, zbl_1, ↓if_pos, if_pos, ↓if_neg, if_neg, ↓zb_ite, zb_ite, ↓zb_itn, zb_itn, ↓gf_129, gf_129, ↓pf_129, pf_129, ↓vc_129, vc_129, if_true, if_false, not_true_eq_false, not_false_eq_true, zu_eq, zu_a, zu_j, ge_iff_le, gt_iff_lt, ne_eq, Int.cast_ofNat_Int, Int.add_zero, Int.zero_add, Int.reduceAdd, Int.reduceSub, Int.reduceMul, Int.reduceNeg]
    rw [zfR_app, zfR_app]
    rfl
  intro n hn k x c u k0 k1 h hc
  obtain ⟨m, rfl⟩ : ∃ m, n = m + 1 + 1 + 1 := ⟨n - 3, by omega⟩
  unfold joV joT
  rw [zfR_app]
  by_cases h4 : k = 4
  · rw [if_pos h4, if_pos h4]
    have e := b0 (m + 1) 0 x (c + 1) (znR 50 u) (by omega) (by omega) (by omega) (zHR_n h) (by omega)
    rw [show gX11_joinsAs (m + 1 + 1 + 1) = gX11_joinsAs_b0 (gX11_joinsAs (m + 1 + 1)) from rfl]
    unfold gX11_joinsAs_b0
    simp (disch := omega) only [↓(vq_129 (s11_begins h (n := 50) (by omega))), ↓(vq_129 e), ↓zcall_ok, zcall_ok, ↓zjn_ok, zjn_ok, ↓zbl_0, zbl_0, ↓zbl_1, zbl_1, ↓if_pos, if_pos, ↓if_neg, if_neg, ↓zb_ite, zb_ite, ↓zb_itn, zb_itn, ↓gf_129, gf_129, ↓pf_129, pf_129, ↓vc_129, vc_129, if_true, if_false, not_true_eq_false, not_false_eq_true, zu_eq, zu_a, zu_j, ge_iff_le, gt_iff_lt, ne_eq, Int.cast_ofNat_Int, Int.add_zero, Int.zero_add, Int.reduceAdd, Int.reduceSub, Int.reduceMul, Int.reduceNeg]
    rfl
  rw [if_neg h4, if_neg h4]
  by_cases h5 : k = 5
  · rw [if_pos h5, if_pos h5]
    have e := b0 (m + 1) 3 x (c + 1) (znR 61 u) (by omega) (by omega) (by omega) (zHR_n h) (by omega)
    rw [show gX11_joinsAs (m + 1 + 1 + 1) = gX11_joinsAs_b0 (gX11_joinsAs (m + 1 + 1)) from rfl]
    unfold gX11_joinsAs_b0
    simp (disch := omega) only [↓(vq_129 (s11_begins h (n := 61) (by omega))), ↓(vq_129 e), ↓zcall_ok, zcall_ok, ↓zjn_ok, zjn_ok, ↓zbl_0, zbl_0, ↓zbl_1, zbl_1, ↓if_pos, if_pos, ↓if_neg, if_neg, ↓zb_ite, zb_ite, ↓zb_itn, zb_itn, ↓gf_129, gf_129, ↓pf_129, pf_129, ↓vc_129, vc_129, if_true, if_false, not_true_eq_false, not_false_eq_true, zu_eq, zu_a, zu_j, ge_iff_le, gt_iff_lt, ne_eq, Int.cast_ofNat_Int, Int.add_zero, Int.zero_add, Int.reduceAdd, Int.reduceSub, Int.reduceMul, Int.reduceNeg]
    rfl
  rw [if_neg h5, if_neg h5]
  by_cases h7 : k = 7
  · rw [if_pos h7, if_pos h7]
    have e := b0 (m + 1) 2 x (c + 1) (znR 81 u) (by omega) (by omega) (by omega) (zHR_n h) (by omega)
    rw [show gX11_joinsAs (m + 1 + 1 + 1) = gX11_joinsAs_b0 (gX11_joinsAs (m + 1 + 1)) from rfl]
    unfold gX11_joinsAs_b0
    simp (disch := omega) only [↓(vq_129 (s11_begins h (n := 81) (by omega))), ↓(vq_129 e), ↓zcall_ok, zcall_ok, ↓zjn_ok, zjn_ok, ↓zbl_0, zbl_0, ↓zbl_1, zbl_1, ↓if_pos, if_pos, ↓if_neg, if_neg, ↓zb_ite, zb_ite, ↓zb_itn, zb_itn, ↓gf_129, gf_129, ↓pf_129, pf_129, ↓vc_129, vc_129, if_true, if_false, not_true_eq_false, not_false_eq_true, zu_eq, zu_a, zu_j, ge_iff_le, gt_iff_lt, ne_eq, Int.cast_ofNat_Int, Int.add_zero, Int.zero_add, Int.reduceAdd, Int.reduceSub, Int.reduceMul, Int.reduceNeg]
    rfl
  · rw [if_neg h7, if_neg h7, b0 (m + 1 + 1) k x c u h4 h5 h7 h (by omega)]
    rfl
