/-! ===== what the methods of a paper do to the list ===== -/
set_option maxHeartbeats 400000 in
theorem c_append {μ : zMem} (hG : zG0 μ) {p : Int} (h0 : 0 ≤ p) (h1 : p < 10) {L : List zEn} (hL : zpC μ p L) (h16 : L.length < 16) (s k l : Int) : ∃ μ', fX6_append (zbP p) s k l μ = some (1, μ') ∧ zpC μ' p (L ++ [(s, k, l, 0)]) ∧ zoC p μ μ' := by
  have hz : zbP p = 53 + 6 * p := rfl
  obtain ⟨hs, hr⟩ := hL
  obtain ⟨n, hn⟩ : ∃ n : Nat, L.length = n := ⟨_, rfl⟩
  rw [hn] at hs h16
  obtain ⟨μ', hμ⟩ : ∃ μ', μ' = zupd (zupd (zupd (zupd (zupd μ (zbP p + 2) n s) (zbP p + 2 + 1) n k) (zbP p + 2 + 2) n l) (zbP p + 2 + 3) n 0) (zbP p) 1 ((n : Int) + 1) := ⟨_, rfl⟩
  refine ⟨μ', ?_, ⟨?_, ?_⟩, ?_⟩
  · unfold fX6_append
    rw [hμ]
    clear hr hμ
    simp (disch := omega) only [↓gfP, gfP, hs, g_P0 hG, g_Pe hG, alPe, asP0, asPr, pfP, zw32_id, ↓zcall_ok, zcall_ok, ↓zjn_ok, zjn_ok, ↓zbl_0, zbl_0, ↓zbl_1, zbl_1, ↓if_pos, if_pos, ↓if_neg, if_neg, ↓zb_ite, zb_ite, ↓zb_itn, zb_itn, ↓gf_6, gf_6, ↓pf_6, pf_6, ↓vc_6, vc_6, if_true, if_false, not_true_eq_false, not_false_eq_true, zu_eq, zu_a, zu_j, ge_iff_le, gt_iff_lt, ne_eq, Int.cast_ofNat_Int, Int.add_zero, Int.zero_add, Int.reduceAdd, Int.reduceSub, Int.reduceMul, Int.reduceNeg]
  · rw [List.length_append, hμ]
    simp only [List.length_cons, List.length_nil]
    rw [zu_eq]
    omega
  · refine zrow_ap hr (fun i hi => ?_) ?_
    · rw [hμ]
      refine ⟨?_, ?_, ?_, ?_⟩ <;> simp (disch := omega) only [if_true, if_false, not_true_eq_false, not_false_eq_true, zcall_ok, zjn_ok, zbl_0, zbl_1, zu_eq, zu_a, zu_j, if_pos, if_neg, ge_iff_le, gt_iff_lt, ne_eq, Int.cast_ofNat_Int, Int.add_zero, Int.zero_add, Int.reduceAdd, Int.reduceSub, Int.reduceMul, Int.reduceNeg, gf_6, pf_6, vc_6]
    · rw [hμ, hn]
      refine ⟨?_, ?_, ?_, ?_⟩ <;> simp (disch := omega) only [if_true, if_false, not_true_eq_false, not_false_eq_true, zcall_ok, zjn_ok, zbl_0, zbl_1, zu_eq, zu_a, zu_j, if_pos, if_neg, ge_iff_le, gt_iff_lt, ne_eq, Int.cast_ofNat_Int, Int.add_zero, Int.zero_add, Int.reduceAdd, Int.reduceSub, Int.reduceMul, Int.reduceNeg, gf_6, pf_6, vc_6]
  · intro a j q1 q2
    rw [hμ]
    unfold zupd
    rw [if_neg (by omega), if_neg (by omega), if_neg (by omega), if_neg (by omega), if_neg (by omega)]
set_option maxHeartbeats 400000 in
theorem cp_P {p w i j c : Int} (h0 : 0 ≤ p) (h1 : p < 10) (h2 : 0 ≤ w) (h3 : w < 4) (h4 : 0 ≤ i) (h5 : 0 ≤ j) (h6 : 0 ≤ c) (h7 : i + c ≤ 16) (h8 : j + c ≤ 16) {μ : zMem} {K : zMem → zRs} : zcopy 20 (zbP p + 2 + w) i (zbP p + 2 + w) j c μ K = K (zcpm μ (zbP p + 2 + w) i (zbP p + 2 + w) j c) :=
  zcopy_ok (n := 16) (n2 := 16) (shPr h0 h1 h2 h3) (shPr h0 h1 h2 h3) (by unfold zbP; omega) (by unfold zbP; omega) h4 h5 h6 h7 h8
set_option maxHeartbeats 400000 in
theorem c_move {μ : zMem} (hG : zG0 μ) {p : Int} (h0 : 0 ≤ p) (h1 : p < 10) {n : Nat} (hs : μ (zbP p) 1 = n) (h16 : n ≤ 16) {f t : Nat} (hf : f < n) (ht : t < n) :
    ∃ μ', fX6_move (zbP p) f t μ = some (0, μ') ∧ (∀ w : Int, 0 ≤ w → w < 4 → ∀ j, μ' (zbP p + 2 + w) j = zmv f t (μ (zbP p + 2 + w)) j) ∧ ∀ a j : Int, ¬ (zbP p + 2 ≤ a ∧ a ≤ zbP p + 5) → μ' a j = μ a j := by
  have hz : zbP p = 53 + 6 * p := rfl
  obtain ⟨M, hM⟩ : ∃ M : Nat → zMem, ∀ w a j, M w a j = if zbP p + 2 ≤ a ∧ a < zbP p + 2 + (w : Int) then zmv f t (μ a) j else μ a j := ⟨fun w a j => if zbP p + 2 ≤ a ∧ a < zbP p + 2 + (w : Int) then zmv f t (μ a) j else μ a j, fun _ _ _ => rfl⟩
  refine ⟨M 4, ?_, fun w w0 w1 j => ?_, fun a j q => ?_⟩
  · have e1 := s6_hasPlace (μ := μ) h0 h1 (f : Int)
    have e2 := s6_hasPlace (μ := μ) h0 h1 (t : Int)
    have hl : ∀ K : Int → zRs, zlen 26 (zbP p + 1) K = K 4 := fun K => lnPe h0 h1
    have key : lX6_move_1 f t (zbP p + 1) 4 0 μ = some (0, M 4) := by
      unfold lX6_move_1
      refine zle1 (fun w => (w : Int)) M rfl ?_ 4 (by omega) (fun k w hw => ?_) (fun k => ?_)
      · funext a j
        rw [hM, if_neg (by omega)]
      · have m1 : M w (zbP p + 1) w = zbP p + 2 + w := by
          rw [hM, if_neg (by omega)]
          exact g_Pe hG h0 h1 (by omega) (by omega)
        have hr : ∀ j, M w (zbP p + 2 + w) j = μ (zbP p + 2 + w) j := fun j => by rw [hM, if_neg (by omega)]
        by_cases c : f < t
        · have em : zupd (zcpm (M w) (zbP p + 2 + w) ((f : Int) + 1) (zbP p + 2 + w) f ((t : Int) - f)) (zbP p + 2 + w) t (M w (zbP p + 2 + w) f) = M (w + 1) := by
            funext a j
            unfold zupd zcpm
            by_cases ha : a = zbP p + 2 + w
            · have hR : M (w + 1) a j = zmv f t (μ a) j := by rw [hM, if_pos (by omega)]
              rw [hR, ha]
              rw [hr f, hr j, hr ((f : Int) + 1 + (j - f))]
              by_cases hj : j = t
              · rw [if_pos ⟨rfl, hj⟩, hj, zmv_at]
              · rw [if_neg (fun q => hj q.2)]
                by_cases hj2 : f ≤ j ∧ j < t
                · rw [if_pos (by omega), zmv_up hj2.1 hj2.2]
                  congr 1
                  omega
                · rw [if_neg (by omega)]
                  by_cases hj3 : j < f
                  · rw [zmv_lo hj3 (by omega)]
                  · rw [zmv_hi (by omega) (by omega)]
            · rw [if_neg (fun q => ha q.1), if_neg (fun q => ha q.1), hM, hM]
              by_cases hb : zbP p + 2 ≤ a ∧ a < zbP p + 2 + w
              · rw [if_pos hb, if_pos (by omega)]
              · rw [if_neg hb, if_neg (by omega)]
          clear hM hr
          simp (disch := omega) only [m1, alPe, alPr, cp_P, asPr, zuc, zw32_id, em, ↓zcall_ok, zcall_ok, ↓zjn_ok, zjn_ok, ↓zbl_0, zbl_0, ↓zbl_1, zbl_1, ↓if_pos, if_pos, ↓if_neg, if_neg, ↓zb_ite, zb_ite, ↓zb_itn, zb_itn, ↓gf_6, gf_6, ↓pf_6, pf_6, ↓vc_6, vc_6, if_true, if_false, not_true_eq_false, not_false_eq_true, zu_eq, zu_a, zu_j, ge_iff_le, gt_iff_lt, ne_eq, Int.cast_ofNat_Int, Int.add_zero, Int.zero_add, Int.reduceAdd, Int.reduceSub, Int.reduceMul, Int.reduceNeg]
        · have em : zupd (zcpm (M w) (zbP p + 2 + w) t (zbP p + 2 + w) ((t : Int) + 1) ((f : Int) - t)) (zbP p + 2 + w) t (M w (zbP p + 2 + w) f) = M (w + 1) := by
            funext a j
            unfold zupd zcpm
            by_cases ha : a = zbP p + 2 + w
            · have hR : M (w + 1) a j = zmv f t (μ a) j := by rw [hM, if_pos (by omega)]
              rw [hR, ha]
              rw [hr f, hr j, hr ((t : Int) + (j - ((t : Int) + 1)))]
              by_cases hj : j = t
              · rw [if_pos ⟨rfl, hj⟩, hj, zmv_at]
              · rw [if_neg (fun q => hj q.2)]
                by_cases hj2 : t < j ∧ j ≤ f
                · rw [if_pos (by omega), zmv_dn hj2.1 hj2.2]
                  congr 1
                  omega
                · rw [if_neg (by omega)]
                  by_cases hj3 : j < t
                  · rw [zmv_lo (by omega) hj3]
                  · rw [zmv_hi (by omega) (by omega)]
            · rw [if_neg (fun q => ha q.1), if_neg (fun q => ha q.1), hM, hM]
              by_cases hb : zbP p + 2 ≤ a ∧ a < zbP p + 2 + w
              · rw [if_pos hb, if_pos (by omega)]
              · rw [if_neg hb, if_neg (by omega)]
          clear hM hr
          simp (disch := omega) only [m1, alPe, alPr, cp_P, asPr, zuc, zw32_id, em, ↓zcall_ok, zcall_ok, ↓zjn_ok, zjn_ok, ↓zbl_0, zbl_0, ↓zbl_1, zbl_1, ↓if_pos, if_pos, ↓if_neg, if_neg, ↓zb_ite, zb_ite, ↓zb_itn, zb_itn, ↓gf_6, gf_6, ↓pf_6, pf_6, ↓vc_6, vc_6, if_true, if_false, not_true_eq_false, not_false_eq_true, zu_eq, zu_a, zu_j, ge_iff_le, gt_iff_lt, ne_eq, Int.cast_ofNat_Int, Int.add_zero, Int.zero_add, Int.reduceAdd, Int.reduceSub, Int.reduceMul, Int.reduceNeg]
      · clear hM
        simp (disch := omega) only [↓zcall_ok, zcall_ok, ↓zjn_ok, zjn_ok, ↓zbl_0, zbl_0, ↓zbl_1, zbl_1, ↓if_pos, if_pos, ↓if_neg, if_neg, ↓zb_ite, zb_ite, ↓zb_itn, zb_itn, ↓gf_6, gf_6, ↓pf_6, pf_6, ↓vc_6, vc_6, if_true, if_false, not_true_eq_false, not_false_eq_true, zu_eq, zu_a, zu_j, ge_iff_le, gt_iff_lt, ne_eq, Int.cast_ofNat_Int, Int.add_zero, Int.zero_add, Int.reduceAdd, Int.reduceSub, Int.reduceMul, Int.reduceNeg]
    rw [eX6_move]
    clear hM
    simp (disch := omega) only [↓(vcP_of h0 h1 e1), ↓(vcP_of h0 h1 e2), ↓gqP hG, hl, key, hs, ↓zcall_ok, zcall_ok, ↓zjn_ok, zjn_ok, ↓zbl_0, zbl_0, ↓zbl_1, zbl_1, ↓if_pos, if_pos, ↓if_neg, if_neg, ↓zb_ite, zb_ite, ↓zb_itn, zb_itn, ↓gf_6, gf_6, ↓pf_6, pf_6, ↓vc_6, vc_6, if_true, if_false, not_true_eq_false, not_false_eq_true, zu_eq, zu_a, zu_j, ge_iff_le, gt_iff_lt, ne_eq, Int.cast_ofNat_Int, Int.add_zero, Int.zero_add, Int.reduceAdd, Int.reduceSub, Int.reduceMul, Int.reduceNeg]
  · rw [hM, if_pos (by omega)]
  · rw [hM, if_neg (by omega)]
set_option maxHeartbeats 400000 in
theorem c_moveL {μ : zMem} (hG : zG0 μ) {p : Int} (h0 : 0 ≤ p) (h1 : p < 10) {L : List zEn} (hL : zpC μ p L) (h16 : L.length ≤ 16) {f t : Nat} {e : zEn} (hf : L[f]? = some e) (ht : t < L.length) :
    ∃ μ', fX6_move (zbP p) f t μ = some (0, μ') ∧ zpC μ' p ((L.eraseIdx f).insertIdx t e) ∧ zoC p μ μ' := by
  have hz : zbP p = 53 + 6 * p := rfl
  obtain ⟨hs, hr⟩ := hL
  have hfl := zgetL hf
  obtain ⟨μ', e1, e2, e3⟩ := c_move hG h0 h1 hs h16 hfl ht
  have hl : ((L.eraseIdx f).insertIdx t e).length = L.length := by
    rw [List.length_insertIdx_of_le_length (by rw [List.length_eraseIdx_of_lt hfl]; omega), List.length_eraseIdx_of_lt hfl]
    omega
  refine ⟨μ', e1, ⟨?_, ?_⟩, fun a j q1 q2 => e3 a j q2⟩
  · rw [hl, e3 _ _ (by omega)]
    exact hs
  · have h3 := fun (w : Int) (w0 : 0 ≤ w) (w1 : w < 4) => (funext (e2 w w0 w1) : μ' (zbP p + 2 + w) = zmv f t (μ (zbP p + 2 + w)))
    have h30 := h3 0 (by omega) (by omega)
    rw [Int.add_zero] at h30
    rw [h30, h3 1 (by omega) (by omega), h3 2 (by omega) (by omega), h3 3 (by omega) (by omega)]
    exact zrow_mv hr hf ht
set_option maxHeartbeats 400000 in
theorem c_drop {μ : zMem} (hG : zG0 μ) {p : Int} (h0 : 0 ≤ p) (h1 : p < 10) {L : List zEn} (hL : zpC μ p L) (h16 : L.length ≤ 16) {i : Nat} (hi : i < L.length) : ∃ μ', fX6_drop (zbP p) i μ = some (0, μ') ∧ zpC μ' p (L.eraseIdx i) ∧ zoC p μ μ' := by
  have hz : zbP p = 53 + 6 * p := rfl
  obtain ⟨hs, hr⟩ := hL
  obtain ⟨m, hm⟩ : ∃ m : Nat, L.length = m + 1 := ⟨L.length - 1, by omega⟩
  have hs' : μ (zbP p) 1 = ((m + 1 : Nat) : Int) := by rw [hs, hm]
  obtain ⟨μ1, e1, e2, e3⟩ := c_move hG h0 h1 hs' (by omega) (f := i) (t := m) (by omega) (by omega)
  have s1 : μ1 (zbP p) 1 = (m : Int) + 1 := by rw [e3 _ _ (by omega), hs']; omega
  have e4 := s6_hasPlace (μ := μ) h0 h1 (i : Int)
  have h3 := fun (w : Int) (w0 : 0 ≤ w) (w1 : w < 4) => (funext (e2 w w0 w1) : μ1 (zbP p + 2 + w) = zmv i m (μ (zbP p + 2 + w)))
  have h30 := h3 0 (by omega) (by omega)
  rw [Int.add_zero] at h30
  have h31 := h3 1 (by omega) (by omega)
  have h32 := h3 2 (by omega) (by omega)
  have h33 := h3 3 (by omega) (by omega)
  refine ⟨zupd μ1 (zbP p) 1 m, ?_, ⟨?_, ?_⟩, ?_⟩
  · unfold fX6_drop
    have hme : zw32 (((m + 1 : Nat) : Int) - 1) = (m : Int) := by rw [zw32_id (by omega) (by omega)]; omega
    have hme2 : zw32 ((m : Int) + 1 - 1) = (m : Int) := by rw [zw32_id (by omega) (by omega)]; omega
    have hi2 : (i : Int) < ((m + 1 : Nat) : Int) := by omega
    rw [hs'] at e4
    rw [zb_t ⟨by omega, hi2⟩] at e4
    clear e2 h3 h30 h31 h32 h33 hr hs
    rw [vcP_of h0 h1 e4, if_neg (by decide), gfP h0 h1, show ((1 : Nat) : Int) = 1 from rfl, hs', hme, vcP_of h0 h1 e1, gfP h0 h1, show ((1 : Nat) : Int) = 1 from rfl, s1, hme2, pfP h0 h1]
    rfl
  · rw [zu_eq, List.length_eraseIdx_of_lt hi, hm]
    rfl
  · have ha : ∀ w : Int, 0 ≤ w → zupd μ1 (zbP p) 1 m (zbP p + 2 + w) = μ1 (zbP p + 2 + w) := fun w w0 => funext (fun j => zu_a (by omega))
    have ha0 := ha 0 (by omega)
    rw [Int.add_zero] at ha0
    rw [ha0, ha 1 (by omega), ha 2 (by omega), ha 3 (by omega), h30, h31, h32, h33]
    refine zrow_er hr (i := i) (fun k k0 k1 => ?_) (fun k k0 k1 => ?_) hi
    · rw [zmv_lo (by omega) (by omega), zmv_lo (by omega) (by omega), zmv_lo (by omega) (by omega), zmv_lo (by omega) (by omega)]
      exact ⟨rfl, rfl, rfl, rfl⟩
    · rw [zmv_up (by omega) (by omega), zmv_up (by omega) (by omega), zmv_up (by omega) (by omega), zmv_up (by omega) (by omega)]
      exact ⟨rfl, rfl, rfl, rfl⟩
  · intro a j q1 q2
    rw [zupd, if_neg q1]
    exact e3 a j q2
/-- a field of an entry -/
def zse (w v : Int) (e : zEn) : zEn := if w = 1 then (e.1, v, e.2.2.1, e.2.2.2) else if w = 2 then (e.1, e.2.1, v, e.2.2.2) else (e.1, e.2.1, e.2.2.1, v)
set_option maxHeartbeats 400000 in
theorem c_set {μ : zMem} {p : Int} {L : List zEn} (hL : zpC μ p L) {i : Nat} {e : zEn} (hi : L[i]? = some e) {w v : Int} (w0 : 1 ≤ w) (w1 : w < 4) : zpC (zupd μ (zbP p + 2 + w) i v) p (L.set i (zse w v e)) ∧ zoC p μ (zupd μ (zbP p + 2 + w) i v) := by
  obtain ⟨hs, hr⟩ := hL
  have he := hr i e hi
  refine ⟨⟨?_, ?_⟩, ?_⟩
  · rw [List.length_set, zu_a (by omega)]
    exact hs
  · refine zrow_st hr (fun k hk _ => ⟨zu_j (by omega), zu_j (by omega), zu_j (by omega), zu_j (by omega)⟩) ?_
    rcases (show w = 1 ∨ w = 2 ∨ w = 3 by omega) with rfl | rfl | rfl
    · exact ⟨(zu_a (by omega)).trans he.1, zu_eq, (zu_a (by omega)).trans he.2.2.1, (zu_a (by omega)).trans he.2.2.2⟩
    · exact ⟨(zu_a (by omega)).trans he.1, (zu_a (by omega)).trans he.2.1, zu_eq, (zu_a (by omega)).trans he.2.2.2⟩
    · exact ⟨(zu_a (by omega)).trans he.1, (zu_a (by omega)).trans he.2.1, (zu_a (by omega)).trans he.2.2.1, zu_eq⟩
  · intro a j _ q2
    exact zu_a (by omega)
/-! ### the reference -/
set_option maxHeartbeats 400000 in
theorem zi16 {p k : Int} (h0 : 0 ≤ p) (h1 : p < 10) (h2 : -100 ≤ k) (h3 : k < 100) : zw32 (zw32 (16 * p) + k) = 16 * p + k := by
  rw [zw32_id (x := 16 * p) (by omega) (by omega), zw32_id (by omega) (by omega)]
def zpu (μ : zMem) (p k a b c d : Int) : zMem := zupd (zupd (zupd (zupd μ 142 (16 * p + k) a) 143 (16 * p + k) b) 144 (16 * p + k) c) 145 (16 * p + k) d
set_option maxHeartbeats 400000 in
theorem r_puts {μ : zMem} (hG : zG0 μ) {p k : Int} (h0 : 0 ≤ p) (h1 : p < 10) (h2 : 0 ≤ k) (h3 : k < 16) {a b c d : Int} (hd : d = 0 ∨ d = 1) : fX11_puts 129 p k a b c d μ = some (0, zpu μ p k a b c d) := by
  unfold fX11_puts zpu
  simp (disch := omega) only [zi16, zbl_ok hd, ↓zcall_ok, zcall_ok, ↓zjn_ok, zjn_ok, ↓zbl_0, zbl_0, ↓zbl_1, zbl_1, ↓if_pos, if_pos, ↓if_neg, if_neg, ↓zb_ite, zb_ite, ↓zb_itn, zb_itn, ↓gf_129, gf_129, ↓pf_129, pf_129, ↓vc_129, vc_129, ↓al_142, al_142, ↓as_142, as_142, ↓ln_142, ln_142, ↓al_143, al_143, ↓as_143, as_143, ↓ln_143, ln_143, ↓al_144, al_144, ↓as_144, as_144, ↓ln_144, ln_144, ↓al_145, al_145, ↓as_145, as_145, ↓ln_145, ln_145, if_true, if_false, not_true_eq_false, not_false_eq_true, zu_eq, zu_a, zu_j, ge_iff_le, gt_iff_lt, ne_eq, Int.cast_ofNat_Int, Int.add_zero, Int.zero_add, Int.reduceAdd, Int.reduceSub, Int.reduceMul, Int.reduceNeg, ↓gq_129_0 hG, ↓gq_129_1 hG, ↓gq_129_2 hG, ↓gq_129_3 hG, ↓gq_129_7 hG, ↓gq_129_10 hG, ↓gq_129_11 hG, ↓gq_129_12 hG, ↓gq_129_13 hG, ↓gq_129_19 hG, ↓gq_129_21 hG, ↓gq_129_22 hG, ↓gq_129_23 hG, ↓gq_129_24 hG, ↓gq_129_25 hG, ↓gq_129_26 hG, ↓gq_129_28 hG, ↓gq_129_29 hG, ↓gq_129_33 hG, ↓gq_129_34 hG, ↓gq_129_35 hG, ↓gq_129_36 hG, g_129_0 hG, g_129_1 hG, g_129_2 hG, g_129_3 hG, g_129_7 hG, g_129_10 hG, g_129_11 hG, g_129_12 hG, g_129_13 hG, g_129_19 hG, g_129_21 hG, g_129_22 hG, g_129_23 hG, g_129_24 hG, g_129_25 hG, g_129_26 hG, g_129_28 hG, g_129_29 hG, g_129_33 hG, g_129_34 hG, g_129_35 hG, g_129_36 hG]
set_option maxHeartbeats 400000 in
theorem zpu_at {μ : zMem} {p k a b c d q j : Int} (hj : q = 16 * p + k) : zpu μ p k a b c d 142 q = a ∧ zpu μ p k a b c d 143 q = b ∧ zpu μ p k a b c d 144 q = c ∧ zpu μ p k a b c d 145 q = d := by
  subst hj
  unfold zpu
  refine ⟨?_, ?_, ?_, ?_⟩
  · rw [zu_a (by decide), zu_a (by decide), zu_a (by decide), zu_eq]
  · rw [zu_a (by decide), zu_a (by decide), zu_eq]
  · rw [zu_a (by decide), zu_eq]
  · rw [zu_eq]
set_option maxHeartbeats 400000 in
theorem zpu_o {μ : zMem} {p k a b c d a' q : Int} (h : ¬ (142 ≤ a' ∧ a' ≤ 145 ∧ q = 16 * p + k)) : zpu μ p k a b c d a' q = μ a' q := by
  unfold zpu zupd
  rw [if_neg (by omega), if_neg (by omega), if_neg (by omega), if_neg (by omega)]
set_option maxHeartbeats 400000 in
theorem zoR_pu {μ : zMem} {p k a b c d : Int} (h2 : 0 ≤ k) (h3 : k < 16) : zoR p μ (zpu μ p k a b c d) := fun a' q _ h => zpu_o (by omega)
set_option maxHeartbeats 400000 in
theorem zoR_sz {μ : zMem} {p v : Int} : zoR p μ (zupd μ 141 p v) := fun a j h _ => by unfold zupd; rw [if_neg h]
set_option maxHeartbeats 400000 in
theorem r_moves {μ : zMem} (hG : zG0 μ) {p t f : Int} (h0 : 0 ≤ p) (h1 : p < 10) (h2 : 0 ≤ t) (h3 : t < 16) (h4 : 0 ≤ f) (h5 : f < 16) (hd : μ 145 (16 * p + f) = 0 ∨ μ 145 (16 * p + f) = 1) :
    fX11_moves 129 p t f μ = some (0, zpu μ p t (μ 142 (16 * p + f)) (μ 143 (16 * p + f)) (μ 144 (16 * p + f)) (μ 145 (16 * p + f))) := by
  have e := r_puts hG h0 h1 h2 h3 (a := μ 142 (16 * p + f)) (b := μ 143 (16 * p + f)) (c := μ 144 (16 * p + f)) hd
  unfold fX11_moves
  simp (disch := omega) only [zi16, ↓(vq_129 e), ↓zcall_ok, zcall_ok, ↓zjn_ok, zjn_ok, ↓zbl_0, zbl_0, ↓zbl_1, zbl_1, ↓if_pos, if_pos, ↓if_neg, if_neg, ↓zb_ite, zb_ite, ↓zb_itn, zb_itn, ↓gf_129, gf_129, ↓pf_129, pf_129, ↓vc_129, vc_129, ↓al_142, al_142, ↓as_142, as_142, ↓ln_142, ln_142, ↓al_143, al_143, ↓as_143, as_143, ↓ln_143, ln_143, ↓al_144, al_144, ↓as_144, as_144, ↓ln_144, ln_144, ↓al_145, al_145, ↓as_145, as_145, ↓ln_145, ln_145, if_true, if_false, not_true_eq_false, not_false_eq_true, zu_eq, zu_a, zu_j, ge_iff_le, gt_iff_lt, ne_eq, Int.cast_ofNat_Int, Int.add_zero, Int.zero_add, Int.reduceAdd, Int.reduceSub, Int.reduceMul, Int.reduceNeg, ↓gq_129_0 hG, ↓gq_129_1 hG, ↓gq_129_2 hG, ↓gq_129_3 hG, ↓gq_129_7 hG, ↓gq_129_10 hG, ↓gq_129_11 hG, ↓gq_129_12 hG, ↓gq_129_13 hG, ↓gq_129_19 hG, ↓gq_129_21 hG, ↓gq_129_22 hG, ↓gq_129_23 hG, ↓gq_129_24 hG, ↓gq_129_25 hG, ↓gq_129_26 hG, ↓gq_129_28 hG, ↓gq_129_29 hG, ↓gq_129_33 hG, ↓gq_129_34 hG, ↓gq_129_35 hG, ↓gq_129_36 hG, g_129_0 hG, g_129_1 hG, g_129_2 hG, g_129_3 hG, g_129_7 hG, g_129_10 hG, g_129_11 hG, g_129_12 hG, g_129_13 hG, g_129_19 hG, g_129_21 hG, g_129_22 hG, g_129_23 hG, g_129_24 hG, g_129_25 hG, g_129_26 hG, g_129_28 hG, g_129_29 hG, g_129_33 hG, g_129_34 hG, g_129_35 hG, g_129_36 hG]
set_option maxHeartbeats 400000 in
theorem r_append {μ : zMem} (hG : zG0 μ) {p : Int} (h0 : 0 ≤ p) (h1 : p < 10) {L : List zEn} (hL : zpR μ p L) (h16 : L.length < 16) {e : zEn} : zpR (zupd (zpu μ p L.length e.1 e.2.1 e.2.2.1 e.2.2.2) 141 p ((L.length : Int) + 1)) p (L ++ [e]) ∧ zoR p μ (zupd (zpu μ p L.length e.1 e.2.1 e.2.2.1 e.2.2.2) 141 p ((L.length : Int) + 1)) := by
  obtain ⟨hs, hr⟩ := hL
  refine ⟨⟨?_, ?_⟩, zoR_t (zoR_pu (by omega) (by omega)) zoR_sz⟩
  · rw [zu_eq, List.length_append]
    simp
  · refine zrow_ap hr (fun k hk => ?_) ?_
    · refine ⟨?_, ?_, ?_, ?_⟩ <;> · show zupd _ _ _ _ _ _ = _; rw [zu_a (by decide), zpu_o (by omega)]
    · obtain ⟨a, b, c, d⟩ := zpu_at (μ := μ) (p := p) (k := L.length) (a := e.1) (b := e.2.1) (c := e.2.2.1) (d := e.2.2.2) (q := 16 * p + L.length) (j := 0) rfl
      refine ⟨?_, ?_, ?_, ?_⟩
      · show zupd _ _ _ _ _ _ = _; rw [zu_a (by decide)]; exact a
      · show zupd _ _ _ _ _ _ = _; rw [zu_a (by decide)]; exact b
      · show zupd _ _ _ _ _ _ = _; rw [zu_a (by decide)]; exact c
      · show zupd _ _ _ _ _ _ = _; rw [zu_a (by decide)]; exact d
set_option maxHeartbeats 400000 in
theorem r_falls {μ : zMem} (hG : zG0 μ) {p : Int} (h0 : 0 ≤ p) (h1 : p < 10) {L : List zEn} (hL : zpR μ p L) (h16 : L.length ≤ 16) (h01 : ∀ e ∈ L, e.2.2.2 = 0 ∨ e.2.2.2 = 1) {i : Nat} (hi : i < L.length) : ∃ μ', fX11_fallsAway 129 p i μ = some (0, μ') ∧ zpR μ' p (L.eraseIdx i) ∧ zoR p μ μ' := by
  obtain ⟨hs, hr⟩ := hL
  obtain ⟨m, hm⟩ : ∃ m : Nat, i + 1 + m = L.length := ⟨L.length - (i + 1), by omega⟩
  obtain ⟨M, hM⟩ : ∃ M : Nat → zMem, ∀ n a j, M n a j = if 142 ≤ a ∧ a ≤ 145 ∧ 16 * p + i ≤ j ∧ j < 16 * p + i + (n : Int) then μ a (j + 1) else μ a j := ⟨fun n a j => if 142 ≤ a ∧ a ≤ 145 ∧ 16 * p + i ≤ j ∧ j < 16 * p + i + (n : Int) then μ a (j + 1) else μ a j, fun _ _ _ => rfl⟩
  have hMo : ∀ n a j, ¬ (142 ≤ a ∧ a ≤ 145) → M n a j = μ a j := fun n a j q => by rw [hM, if_neg (by omega)]
  have hMR : ∀ n, n ≤ m → zoR p μ (M n) := fun n hn a j _ q => by rw [hM, if_neg (by omega)]
  refine ⟨zupd (M m) 141 p ((L.length : Int) - 1), ?_, ⟨?_, ?_⟩, zoR_t (hMR m (Nat.le_refl _)) zoR_sz⟩
  · rw [eX11_fallsAway]
    unfold lX11_fallsAway_1
    have hi1 : zw32 ((i : Int) + 1) = ((i + 1 : Nat) : Int) := zupn (by omega)
    rw [hi1]
    clear hi1
    refine zle1 (fun n => ((i + 1 + n : Nat) : Int)) M rfl ?_ m (by omega) (fun k n hn => ?_) (fun k => ?_)
    · funext a j
      rw [hM, if_neg (by omega)]
    · obtain ⟨B, hB⟩ : ∃ B : Nat, i + 1 + n = B := ⟨_, rfl⟩
      simp only [hB, show i + 1 + (n + 1) = B + 1 by omega]
      have m1 : M n 141 p = (L.length : Int) := (hMo _ _ _ (by omega)).trans hs
      have m2 : ∀ j, M n 129 j = μ 129 j := fun j => hMo _ _ _ (by omega)
      have hGM := zoR_G0 (hMR n (by omega)) hG
      obtain ⟨e, he⟩ := zgetE (L := L) (k := B) (by omega)
      obtain ⟨r0, r1, r2, r3⟩ := hr B e he
      have hmB : ∀ a, M n a (16 * p + B) = μ a (16 * p + B) := fun a => by rw [hM, if_neg (by omega)]
      have e1 := r_moves hGM h0 h1 (t := (B : Int) - 1) (f := B) (by omega) (by omega) (by omega) (by omega) (by rw [hmB, show μ 145 (16 * p + B) = e.2.2.2 from r3]; exact h01 e (List.mem_of_getElem? he))
      have em : zpu (M n) p ((B : Int) - 1) (M n 142 (16 * p + B)) (M n 143 (16 * p + B)) (M n 144 (16 * p + B)) (M n 145 (16 * p + B)) = M (n + 1) := by
        funext a j
        by_cases hj : 142 ≤ a ∧ a ≤ 145 ∧ j = 16 * p + ((B : Int) - 1)
        · obtain ⟨z1, z2, z3, z4⟩ := zpu_at (μ := M n) (p := p) (k := (B : Int) - 1) (a := M n 142 (16 * p + B)) (b := M n 143 (16 * p + B)) (c := M n 144 (16 * p + B)) (d := M n 145 (16 * p + B)) (q := j) (j := 0) hj.2.2
          have hj1 : j + 1 = 16 * p + B := by omega
          rw [hM (n + 1), if_pos (by omega), hj1, ← hmB]
          rcases (show a = 142 ∨ a = 143 ∨ a = 144 ∨ a = 145 by omega) with rfl | rfl | rfl | rfl
          · exact z1
          · exact z2
          · exact z3
          · exact z4
        · rw [zpu_o hj, hM, hM]
          by_cases hb : 142 ≤ a ∧ a ≤ 145 ∧ 16 * p + i ≤ j ∧ j < 16 * p + i + (n : Int)
          · rw [if_pos hb, if_pos (by omega)]
          · rw [if_neg hb, if_neg (by omega)]
      rw [em] at e1
      have hb1 : zw32 ((B : Int) - 1) = (B : Int) - 1 := zw32_id (by omega) (by omega)
      have hBl : (B : Int) < L.length := by omega
      rw [← hb1] at e1
      clear hM hMo hMR hr h01 em hmB hb1 r0 r1 r2 r3
      simp (disch := omega) only [m1, m2, g_129_22 hG, ↓(vq_129 e1), zupn, ↓zcall_ok, zcall_ok, ↓zjn_ok, zjn_ok, ↓zbl_0, zbl_0, ↓zbl_1, zbl_1, ↓if_pos, if_pos, ↓if_neg, if_neg, ↓zb_ite, zb_ite, ↓zb_itn, zb_itn, ↓gf_129, gf_129, ↓pf_129, pf_129, ↓vc_129, vc_129, ↓al_141, al_141, ↓as_141, as_141, ↓ln_141, ln_141, ↓al_142, al_142, ↓as_142, as_142, ↓ln_142, ln_142, if_true, if_false, not_true_eq_false, not_false_eq_true, zu_eq, zu_a, zu_j, ge_iff_le, gt_iff_lt, ne_eq, Int.cast_ofNat_Int, Int.add_zero, Int.zero_add, Int.reduceAdd, Int.reduceSub, Int.reduceMul, Int.reduceNeg]
    · have hx : ((i + 1 + m : Nat) : Int) = L.length := by omega
      have m1 : M m 141 p = (L.length : Int) := (hMo _ _ _ (by omega)).trans hs
      have m2 : ∀ j, M m 129 j = μ 129 j := fun j => hMo _ _ _ (by omega)
      simp only [hx]
      clear hM hMo hMR hr h01
      simp (disch := omega) only [m1, m2, g_129_22 hG, zw32_id, ↓zcall_ok, zcall_ok, ↓zjn_ok, zjn_ok, ↓zbl_0, zbl_0, ↓zbl_1, zbl_1, ↓if_pos, if_pos, ↓if_neg, if_neg, ↓zb_ite, zb_ite, ↓zb_itn, zb_itn, ↓gf_129, gf_129, ↓pf_129, pf_129, ↓vc_129, vc_129, ↓al_141, al_141, ↓as_141, as_141, ↓ln_141, ln_141, ↓al_142, al_142, ↓as_142, as_142, ↓ln_142, ln_142, if_true, if_false, not_true_eq_false, not_false_eq_true, zu_eq, zu_a, zu_j, ge_iff_le, gt_iff_lt, ne_eq, Int.cast_ofNat_Int, Int.add_zero, Int.zero_add, Int.reduceAdd, Int.reduceSub, Int.reduceMul, Int.reduceNeg]
  · rw [zu_eq, List.length_eraseIdx_of_lt hi]
    omega
  · refine zrow_er hr (i := i) (fun k k0 k1 => ?_) (fun k k0 k1 => ?_) hi
    · refine ⟨?_, ?_, ?_, ?_⟩ <;> · show zupd _ _ _ _ _ _ = _; rw [zu_a (by decide), hM, if_neg (by omega)]
    · refine ⟨?_, ?_, ?_, ?_⟩ <;> · show zupd _ _ _ _ _ _ = _; rw [zu_a (by decide), hM, if_pos (by omega), show 16 * p + (k : Int) + 1 = 16 * p + ((k : Int) + 1) by omega]
set_option maxHeartbeats 400000 in
theorem r_set {μ : zMem} {p : Int} {L : List zEn} (hL : zpR μ p L) {i : Nat} {e : zEn} (hi : L[i]? = some e) (h16 : L.length ≤ 16) {w v : Int} (w0 : 1 ≤ w) (w1 : w < 4) : zpR (zupd μ (142 + w) (16 * p + i) v) p (L.set i (zse w v e)) ∧ zoR p μ (zupd μ (142 + w) (16 * p + i) v) := by
  obtain ⟨hs, hr⟩ := hL
  have he := hr i e hi
  have hl := zgetL hi
  refine ⟨⟨?_, ?_⟩, ?_⟩
  · rw [List.length_set, zu_a (by omega)]
    exact hs
  · refine zrow_st hr (fun k hk _ => ⟨zu_j (by omega), zu_j (by omega), zu_j (by omega), zu_j (by omega)⟩) ?_
    rcases (show w = 1 ∨ w = 2 ∨ w = 3 by omega) with rfl | rfl | rfl
    · exact ⟨(zu_a (by omega)).trans he.1, zu_eq, (zu_a (by omega)).trans he.2.2.1, (zu_a (by omega)).trans he.2.2.2⟩
    · exact ⟨(zu_a (by omega)).trans he.1, (zu_a (by omega)).trans he.2.1, zu_eq, (zu_a (by omega)).trans he.2.2.2⟩
    · exact ⟨(zu_a (by omega)).trans he.1, (zu_a (by omega)).trans he.2.1, (zu_a (by omega)).trans he.2.2.1, zu_eq⟩
  · intro a j _ q2
    unfold zupd
    rw [if_neg (by omega)]
