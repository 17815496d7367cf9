/-! ===== read ===== -/
def zhr (own : zEn → Bool) (e : zEn) : Option zEn := if own e = true then (if e.2.1 = 2 then none else some (e.1, e.2.1, zmi 999 (zw32 (2 * e.2.2.1)), e.2.2.2)) else some e
set_option maxHeartbeats 400000 in
theorem zhr_n {own : zEn → Bool} {e : zEn} (h : own e = false) : zhr own e = some e := if_neg (by rw [h]; decide)
set_option maxHeartbeats 400000 in
theorem zhr_0 {own : zEn → Bool} {e : zEn} (h : own e = true) (h2 : e.2.1 = 2) : zhr own e = none := by unfold zhr; rw [if_pos h, if_pos h2]
set_option maxHeartbeats 400000 in
theorem zhr_1 {own : zEn → Bool} {e : zEn} (h : own e = true) (h2 : ¬ e.2.1 = 2) : zhr own e = some (e.1, e.2.1, zmi 999 (zw32 (2 * e.2.2.1)), e.2.2.2) := by unfold zhr; rw [if_pos h, if_neg h2]
set_option maxHeartbeats 400000 in
theorem zfm_cg {h h' : zEn → Option zEn} : ∀ {L : List zEn}, (∀ e ∈ L, h e = h' e) → L.filterMap h = L.filterMap h'
  | [], _ => rfl
  | e :: L, q => by
    rw [List.filterMap_cons, List.filterMap_cons, q e List.mem_cons_self, zfm_cg (fun x hx => q x (List.mem_cons_of_mem _ hx))]
set_option maxHeartbeats 400000 in
theorem zfm_0 {h : zEn → Option zEn} {e : zEn} {B : List zEn} (q : h e = none) : (e :: B).filterMap h = B.filterMap h := List.filterMap_cons_none q
set_option maxHeartbeats 400000 in
theorem zfm_1 {h : zEn → Option zEn} {e e' : zEn} {B : List zEn} (q : h e = some e') : (e :: B).filterMap h = e' :: B.filterMap h := List.filterMap_cons_some q
set_option maxHeartbeats 400000 in
theorem zfa_0 {h : zEn → Option zEn} {e : zEn} {A : List zEn} (q : h e = none) : (A ++ [e]).filterMap h = A.filterMap h := by
  rw [List.filterMap_append, zfm_0 q, List.filterMap_nil, List.append_nil]
set_option maxHeartbeats 400000 in
theorem zfa_1 {h : zEn → Option zEn} {e e' : zEn} {A : List zEn} (q : h e = some e') : (A ++ [e]).filterMap h = A.filterMap h ++ [e'] := by
  rw [List.filterMap_append, zfm_1 q, List.filterMap_nil]
set_option maxHeartbeats 400000 in
theorem zat_mid {A R : List zEn} {e : zEn} : (A ++ e :: R)[A.length]? = some e := by
  rw [List.getElem?_append, if_neg (by omega), Nat.sub_self]
  rfl
set_option maxHeartbeats 400000 in
theorem zset_mid {A R : List zEn} {e e' : zEn} : (A ++ e :: R).set A.length e' = A ++ e' :: R := by
  rw [List.set_append_right _ _ (Nat.le_refl _), Nat.sub_self]
  rfl
set_option maxHeartbeats 400000 in
theorem zer_mid {A R : List zEn} {e : zEn} : (A ++ e :: R).eraseIdx A.length = A ++ R := by
  rw [List.eraseIdx_append_of_length_le (Nat.le_refl _), Nat.sub_self]
  rfl
set_option maxHeartbeats 400000 in
theorem zlok_fm {N : Int} {L : List zEn} (h : zlok N L) (own : zEn → Bool) : zlok N (L.filterMap (zhr own)) := by
  obtain ⟨h1, h2, h3⟩ := h
  have key : ∀ a b : zEn, zhr own a = some b → b.1 = a.1 ∧ (zeok N a → zeok N b) := fun a b q => by
    cases ho : own a with
    | false =>
      rw [zhr_n ho] at q
      rw [← Option.some.inj q]
      exact ⟨rfl, fun z => z⟩
    | true =>
      by_cases h2 : a.2.1 = 2
      · rw [zhr_0 ho h2] at q; cases q
      · rw [zhr_1 ho h2] at q
        rw [← Option.some.inj q]
        refine ⟨rfl, fun z => ⟨z.1, z.2.1, ?_, z.2.2.2⟩⟩
        have hz := z.2.2.1
        show 0 ≤ zmi 999 (zw32 (2 * a.2.2.1)) ∧ zmi 999 (zw32 (2 * a.2.2.1)) ≤ 999
        rw [zw32_id (by omega) (by omega)]
        unfold zmi
        split <;> omega
  refine ⟨Nat.le_trans (List.length_filterMap_le _ _) h1, fun e he => ?_, h3.filterMap _ (fun a a' hR b hb b' hb' => ?_)⟩
  · obtain ⟨a, ha, hb⟩ := List.mem_filterMap.mp he
    exact (key a e hb).2 (h2 a ha)
  · rw [(key a b hb).1, (key a' b' hb').1]
    exact hR
set_option maxHeartbeats 400000 in
theorem c_hear {μ : zMem} (hG : zG0 μ) {p : Int} (h0 : 0 ≤ p) (h1 : p < 10) {L : List zEn} (hC : zpC μ p L) (hok : zlok (μ 6 1) L) (hN : μ 6 1 ≤ 16) {who : Int} {own : zEn → Bool} (hown : ∀ e, own e = decide (μ 8 e.1 = who)) :
    ∃ r μ', fX6_hear (zbP p) 6 who μ = some (r, μ') ∧ (r = (L.length : Int) - (L.filterMap (zhr own)).length ∧ zpC μ' p (L.filterMap (zhr own)) ∧ zoC p μ μ') := by
  have hz : zbP p = 53 + 6 * p := rfl
  have hlen := hok.1
  rw [eX6_hear, gfP h0 h1, gfP h0 h1, show ((1 : Nat) : Int) = 1 from rfl, hC.1]
  have hz1 : zw32 ((L.length : Int) - 1) = (L.length : Int) - 1 := zw32_id (by omega) (by omega)
  rw [hz1]
  clear hz1
  unfold lX6_hear_1
  refine zli1 (fun n a u => ∃ A B, L = A ++ B ∧ B.length = n ∧ a = (A.length : Int) - 1 ∧ zpC u p (A ++ B.filterMap (zhr own)) ∧ zoC p μ u) L.length (by omega) (fun k n a u hn hI => ?_) (fun k a u hI => ?_) ⟨L, [], by simp, rfl, rfl, by simpa using hC, zoC_r⟩
  · obtain ⟨A, B, i1, i2, i3, i4, i5⟩ := hI
    have hA : A ≠ [] := by
      intro q
      rw [q, List.nil_append] at i1
      rw [i1] at hn
      omega
    obtain ⟨A', e, rfl⟩ : ∃ A' e, A = A' ++ [e] := ⟨A.dropLast, A.getLast hA, (List.dropLast_concat_getLast hA).symm⟩
    rw [List.append_assoc, List.singleton_append] at i1 i4
    have heL : e ∈ L := by rw [i1]; simp
    obtain ⟨m, hm⟩ : ∃ m : Nat, A'.length = m := ⟨_, rfl⟩
    have hmL : m + 1 ≤ L.length := by rw [i1]; simp; omega
    have ha : a = m := by rw [i3]; simp; omega
    have hGu := zoC_G0 h0 h1 i5 hG
    obtain ⟨o1, o2, o3, o4⟩ := hok.2.1 e heL
    have hat := zat_mid (A := A') (R := B.filterMap (zhr own)) (e := e)
    obtain ⟨f0, f1, f2, f3⟩ := i4.2 _ e hat
    have hlc : (A' ++ e :: B.filterMap (zhr own)).length ≤ 16 := by
      have := List.length_filterMap_le (zhr own) B
      have : L.length = A'.length + (B.length + 1) := by rw [i1]; simp
      simp only [List.length_append, List.length_cons]
      omega
    rw [hm] at hat f0 f1 f2 f3
    have q6 : u 6 1 = μ 6 1 := i5 _ _ (by omega) (by omega)
    have pw : fX5_part 6 e.1 0 u = some (μ 8 e.1, u) := by
      rw [s5_part hGu (by omega), if_pos ⟨o1.1, by omega, by decide, by decide⟩]
      exact congrArg (fun z => some (z, u)) (i5 _ _ (by omega) (by omega))
    have hdn : zw32 ((m : Int) + -1) = (A'.length : Int) - 1 := by rw [zw32_id (by omega) (by omega)]; omega
    have hm0 : ¬ (m : Int) < 0 := by omega
    have hB2 : (e :: B).length = n + 1 := by rw [List.length_cons, i2]
    have m16 : (m : Int) < 16 := by omega
    subst ha
    by_cases hw : μ 8 e.1 = who
    · have ho : own e = true := by rw [hown]; exact decide_eq_true hw
      by_cases h2 : e.2.1 = 2
      · obtain ⟨u', d1, d2, d3⟩ := c_drop hGu h0 h1 i4 hlc (i := m) (by rw [← hm]; simp)
        rw [← hm, zer_mid] at d2
        rw [h2] at f1
        refine ⟨(A'.length : Int) - 1, u', ⟨A', e :: B, i1, hB2, rfl, by rw [zfm_0 (zhr_0 ho h2)]; exact d2, zoC_t i5 d3⟩, ?_⟩
        rw [← hdn]
        clear hdn d2 d3 i1 i4 i5 hC hok hown o1 o2 o3 o4 hG hlc hat q6
        simp (disch := omega) only [↓gqP hGu, g_Pe hGu, alPe, alP0, alPr, f0, f1, ↓(vq_6 pw), hw, ↓(vcP_of h0 h1 d1), ↓zcall_ok, zcall_ok, ↓zjn_ok, zjn_ok, ↓zbl_0, zbl_0, ↓zbl_1, zbl_1, ↓if_pos, if_pos, ↓if_neg, if_neg, ↓zb_ite, zb_ite, ↓zb_itn, zb_itn, ↓gf_6, gf_6, ↓pf_6, pf_6, ↓vc_6, vc_6, if_true, if_false, not_true_eq_false, not_false_eq_true, zu_eq, zu_a, zu_j, ge_iff_le, gt_iff_lt, ne_eq, Int.cast_ofNat_Int, Int.add_zero, Int.zero_add, Int.reduceAdd, Int.reduceSub, Int.reduceMul, Int.reduceNeg]
      · obtain ⟨d2, d3⟩ := c_set i4 (by rw [← hm]; exact zat_mid) (w := 2) (v := zmi 999 (zw32 (2 * e.2.2.1))) (by decide) (by decide) (i := m)
        rw [← hm, zset_mid] at d2
        rw [hm] at d2
        refine ⟨(A'.length : Int) - 1, _, ⟨A', e :: B, i1, hB2, rfl, by rw [zfm_1 (zhr_1 ho h2)]; exact d2, zoC_t i5 d3⟩, ?_⟩
        have f1' : ¬ u (zbP p + 2 + 1) m = 2 := by rw [f1]; exact h2
        rw [← hdn]
        clear hdn d2 d3 i1 i4 i5 hC hok hown o1 o2 o3 o4 hG hlc hat q6 f1
        simp (disch := omega) only [↓gqP hGu, g_Pe hGu, alPe, alP0, alPr, asPr, f0, f2, ↓(vq_6 pw), hw, ↓zcall_ok, zcall_ok, ↓zjn_ok, zjn_ok, ↓zbl_0, zbl_0, ↓zbl_1, zbl_1, ↓if_pos, if_pos, ↓if_neg, if_neg, ↓zb_ite, zb_ite, ↓zb_itn, zb_itn, ↓gf_6, gf_6, ↓pf_6, pf_6, ↓vc_6, vc_6, if_true, if_false, not_true_eq_false, not_false_eq_true, zu_eq, zu_a, zu_j, ge_iff_le, gt_iff_lt, ne_eq, Int.cast_ofNat_Int, Int.add_zero, Int.zero_add, Int.reduceAdd, Int.reduceSub, Int.reduceMul, Int.reduceNeg]
    · have ho : own e = false := by rw [hown]; exact decide_eq_false hw
      refine ⟨(A'.length : Int) - 1, u, ⟨A', e :: B, i1, hB2, rfl, by rw [zfm_1 (zhr_n ho)]; exact i4, i5⟩, ?_⟩
      rw [← hdn]
      clear hdn i1 i4 i5 hC hok hown o1 o2 o3 o4 hG hlc hat q6 f1 f2 f3
      simp (disch := omega) only [↓gqP hGu, g_Pe hGu, alPe, alP0, f0, ↓(vq_6 pw), ↓zcall_ok, zcall_ok, ↓zjn_ok, zjn_ok, ↓zbl_0, zbl_0, ↓zbl_1, zbl_1, ↓if_pos, if_pos, ↓if_neg, if_neg, ↓zb_ite, zb_ite, ↓zb_itn, zb_itn, ↓gf_6, gf_6, ↓pf_6, pf_6, ↓vc_6, vc_6, if_true, if_false, not_true_eq_false, not_false_eq_true, zu_eq, zu_a, zu_j, ge_iff_le, gt_iff_lt, ne_eq, Int.cast_ofNat_Int, Int.add_zero, Int.zero_add, Int.reduceAdd, Int.reduceSub, Int.reduceMul, Int.reduceNeg]
  · obtain ⟨A, B, i1, i2, i3, i4, i5⟩ := hI
    have hA : A = [] := by
      have : L.length = A.length + B.length := by rw [i1]; simp
      exact List.length_eq_zero_iff.mp (by omega)
    subst hA
    rw [List.nil_append] at i1 i4
    subst i1
    obtain ⟨s, hs⟩ : ∃ s : Nat, (L.filterMap (zhr own)).length = s := ⟨_, rfl⟩
    have hsl := List.length_filterMap_le (zhr own) L
    have q1 := i4.1
    refine ⟨_, u, ?_, rfl, i4, i5⟩
    rw [hs] at q1 hsl ⊢
    have ha : a < 0 := by rw [i3]; simp
    have hz2 : zw32 ((L.length : Int) - s) = (L.length : Int) - s := zw32_id (by omega) (by omega)
    clear i4 i5 hC hok hown hG
    rw [if_pos ha, gfP h0 h1, show ((1 : Nat) : Int) = 1 from rfl, q1, hz2]
set_option maxHeartbeats 400000 in
theorem zu_same {μ : zMem} {a j v v' : Int} : zupd (zupd μ a j v) a j v' = zupd μ a j v' := by
  funext a' j'
  unfold zupd
  by_cases h : a' = a ∧ j' = j
  · rw [if_pos h, if_pos h]
  · rw [if_neg h, if_neg h, if_neg h]
set_option maxHeartbeats 400000 in
theorem zu_self {μ : zMem} {a j v : Int} (h : μ a j = v) : zupd μ a j v = μ := by
  funext a' j'
  unfold zupd
  by_cases q : a' = a ∧ j' = j
  · rw [if_pos q, q.1, q.2, h]
  · rw [if_neg q]
set_option maxHeartbeats 400000 in
theorem r_read {μ : zMem} (hG : zG0 μ) {p : Int} (h0 : 0 ≤ p) (h1 : p < 10) {L : List zEn} {N : Int} (hR : zpR μ p L) (hok : zlok N L) (hN : N ≤ 16) {who : Int} {own : zEn → Bool} (hown : ∀ e, own e = decide (μ 130 e.1 = who)) :
    ∃ r μ', lX11_read_1 129 p who 0 0 μ = some (r, μ') ∧ (r = (L.length : Int) - (L.filterMap (zhr own)).length ∧ zpR μ' p (L.filterMap (zhr own)) ∧ zoR p μ μ') := by
  have hlen := hok.1
  unfold lX11_read_1
  refine zli2 (fun n a b u => ∃ A B, L = A ++ B ∧ A.length = n ∧ a = (n : Int) - b ∧ b = ((A.filterMap (zhr own)).length : Int) ∧ zpR u p (A.filterMap (zhr own) ++ B) ∧ zoR p μ u) L.length (by omega) (fun k n a b u hn hI => ?_) (fun k a b u hI => ?_) ⟨[], L, by simp, rfl, by simp, by simp, by simpa using hR, zoR_r⟩
  · obtain ⟨A, B, i1, i2, i3, i4, i5, i6⟩ := hI
    cases B with
    | nil =>
      rw [List.append_nil] at i1
      rw [i1] at hn
      omega
    | cons e B =>
    have heL : e ∈ L := by rw [i1]; simp
    obtain ⟨m, hm⟩ : ∃ m : Nat, (A.filterMap (zhr own)).length = m := ⟨_, rfl⟩
    have hmn : m ≤ n := by rw [← hm, ← i2]; exact List.length_filterMap_le _ _
    have hGu := zoR_G0 i6 hG
    obtain ⟨o1, o2, o3, o4⟩ := hok.2.1 e heL
    have hat := zat_mid (A := A.filterMap (zhr own)) (R := B) (e := e)
    obtain ⟨f0, f1, f2, f3⟩ := i5.2 _ e hat
    rw [hm] at hat f0 f1 f2 f3
    simp only [] at f0 f1 f2 f3
    have hl1 : L.length = n + (B.length + 1) := by rw [i1, ← i2]; simp
    have hl2 : (A.filterMap (zhr own) ++ e :: B).length = m + (B.length + 1) := by rw [← hm]; simp
    have hsz := i5.1
    rw [hl2] at hsz
    have hlc : (A.filterMap (zhr own) ++ e :: B).length ≤ 16 := by omega
    have h01 : ∀ x ∈ A.filterMap (zhr own) ++ e :: B, x.2.2.2 = 0 ∨ x.2.2.2 = 1 := fun x hx => by
      rcases List.mem_append.mp hx with q | q
      · have hA : zlok N (A.filterMap (zhr own)) := by
          refine zlok_fm ⟨by omega, fun y hy => hok.2.1 y (by rw [i1]; exact List.mem_append_left _ hy), ?_⟩ own
          have := hok.2.2
          rw [i1] at this
          exact (List.pairwise_append.mp this).1
        exact zlok_01 hA x q
      · exact zlok_01 hok x (by rw [i1]; exact List.mem_append_right _ q)
    have hm16 : (m : Int) < 16 := by omega
    have hms : ¬ (m : Int) ≥ ((m + (B.length + 1) : Nat) : Int) := by omega
    have hbm : b = m := by rw [i4, hm]
    have q130 : u 130 e.1 = μ 130 e.1 := i6 _ _ (by omega) (by omega)
    have i1' : L = (A ++ [e]) ++ B := by rw [i1]; simp
    have i2' : (A ++ [e]).length = n + 1 := by rw [List.length_append, i2]; rfl
    subst hbm
    clear i4
    by_cases hw : μ 130 e.1 = who
    · have ho : own e = true := by rw [hown]; exact decide_eq_true hw
      by_cases h2 : e.2.1 = 2
      · obtain ⟨u', d1, d2, d3⟩ := r_falls hGu h0 h1 i5 hlc h01 (i := m) (by omega)
        rw [← hm, zer_mid] at d2
        rw [h2] at f1
        have ha : zw32 (a + 1) = a + 1 := zw32_id (by omega) (by omega)
        refine ⟨a + 1, m, u', ⟨A ++ [e], B, i1', i2', by omega, by rw [zfa_0 (zhr_0 ho h2), hm], by rw [zfa_0 (zhr_0 ho h2)]; exact d2, zoR_t i6 d3⟩, ?_⟩
        rw [← ha]
        clear ha d2 d3 i1 i5 i6 hR hok hown o2 o3 o4 hG hlc hat h01 hl1 hl2 f2 f3 i3 i1' i2' hm
        simp (disch := omega) only [hsz, zi16, f0, f1, q130, hw, ↓(vq_129 d1), zwi, ↓zcall_ok, zcall_ok, ↓zjn_ok, zjn_ok, ↓zbl_0, zbl_0, ↓zbl_1, zbl_1, ↓if_pos, if_pos, ↓if_neg, if_neg, ↓zb_ite, zb_ite, ↓zb_itn, zb_itn, ↓gf_129, gf_129, ↓pf_129, pf_129, ↓vc_129, vc_129, ↓al_130, al_130, ↓as_130, as_130, ↓ln_130, ln_130, ↓al_141, al_141, ↓as_141, as_141, ↓ln_141, ln_141, ↓al_142, al_142, ↓as_142, as_142, ↓ln_142, ln_142, ↓al_143, al_143, ↓as_143, as_143, ↓ln_143, ln_143, if_true, if_false, not_true_eq_false, not_false_eq_true, zu_eq, zu_a, zu_j, ge_iff_le, gt_iff_lt, ne_eq, Int.cast_ofNat_Int, Int.add_zero, Int.zero_add, Int.reduceAdd, Int.reduceSub, Int.reduceMul, Int.reduceNeg, ↓gq_129_0 hGu, ↓gq_129_1 hGu, ↓gq_129_2 hGu, ↓gq_129_3 hGu, ↓gq_129_7 hGu, ↓gq_129_10 hGu, ↓gq_129_11 hGu, ↓gq_129_12 hGu, ↓gq_129_13 hGu, ↓gq_129_19 hGu, ↓gq_129_21 hGu, ↓gq_129_22 hGu, ↓gq_129_23 hGu, ↓gq_129_24 hGu, ↓gq_129_25 hGu, ↓gq_129_26 hGu, ↓gq_129_28 hGu, ↓gq_129_29 hGu, ↓gq_129_33 hGu, ↓gq_129_34 hGu, ↓gq_129_35 hGu, ↓gq_129_36 hGu, g_129_0 hGu, g_129_1 hGu, g_129_2 hGu, g_129_3 hGu, g_129_7 hGu, g_129_10 hGu, g_129_11 hGu, g_129_12 hGu, g_129_13 hGu, g_129_19 hGu, g_129_21 hGu, g_129_22 hGu, g_129_23 hGu, g_129_24 hGu, g_129_25 hGu, g_129_26 hGu, g_129_28 hGu, g_129_29 hGu, g_129_33 hGu, g_129_34 hGu, g_129_35 hGu, g_129_36 hGu]
      · have h2' : ¬ u 143 (16 * p + m) = 2 := by rw [f1]; exact h2
        have hzw : zw32 (2 * e.2.2.1) = 2 * e.2.2.1 := zw32_id (by omega) (by omega)
        obtain ⟨v, hv⟩ : ∃ v, v = zmi 999 (zw32 (2 * e.2.2.1)) := ⟨_, rfl⟩
        obtain ⟨d2, d3⟩ := r_set i5 (by rw [← hm]; exact zat_mid) hlc (w := 2) (v := v) (by decide) (by decide) (i := m)
        rw [← hm, zset_mid] at d2
        rw [hm] at d2
        refine ⟨a, (m : Int) + 1, _, ⟨A ++ [e], B, i1', i2', by omega, by rw [zfa_1 (zhr_1 ho h2), List.length_append, hm]; simp, ?_, zoR_t i6 d3⟩, ?_⟩
        · rw [zfa_1 (zhr_1 ho h2), List.append_assoc, List.singleton_append, ← hv]
          exact d2
        · have hmi : v = if 2 * e.2.2.1 ≤ 999 then 2 * e.2.2.1 else 999 := by
            rw [hv, hzw]
            unfold zmi
            split <;> split <;> omega
          rw [hzw] at hv
          clear d2 d3 i1 i5 i6 hR hok hown o2 o4 hG hlc hat h01 hl1 hl2 f3 f1 i3 i1' i2' hm
          have hup : zw32 ((m : Int) + 1) = (m : Int) + 1 := zw32_id (by omega) (by omega)
          rw [← hup]
          clear hup
          by_cases c : 2 * e.2.2.1 ≤ 999
          · rw [if_pos c] at hmi
            rw [hmi, ← hzw]
            clear hv hmi
            rw [hzw]
            have hz3 := hzw
            clear hzw
            simp (disch := omega) only [hsz, zi16, f0, f2, q130, hw, hz3, zu_same, zwi, ↓zcall_ok, zcall_ok, ↓zjn_ok, zjn_ok, ↓zbl_0, zbl_0, ↓zbl_1, zbl_1, ↓if_pos, if_pos, ↓if_neg, if_neg, ↓zb_ite, zb_ite, ↓zb_itn, zb_itn, ↓gf_129, gf_129, ↓pf_129, pf_129, ↓vc_129, vc_129, ↓al_130, al_130, ↓as_130, as_130, ↓ln_130, ln_130, ↓al_141, al_141, ↓as_141, as_141, ↓ln_141, ln_141, ↓al_142, al_142, ↓as_142, as_142, ↓ln_142, ln_142, ↓al_143, al_143, ↓as_143, as_143, ↓ln_143, ln_143, ↓al_144, al_144, ↓as_144, as_144, ↓ln_144, ln_144, if_true, if_false, not_true_eq_false, not_false_eq_true, zu_eq, zu_a, zu_j, ge_iff_le, gt_iff_lt, ne_eq, Int.cast_ofNat_Int, Int.add_zero, Int.zero_add, Int.reduceAdd, Int.reduceSub, Int.reduceMul, Int.reduceNeg, ↓gq_129_0 hGu, ↓gq_129_1 hGu, ↓gq_129_2 hGu, ↓gq_129_3 hGu, ↓gq_129_7 hGu, ↓gq_129_10 hGu, ↓gq_129_11 hGu, ↓gq_129_12 hGu, ↓gq_129_13 hGu, ↓gq_129_19 hGu, ↓gq_129_21 hGu, ↓gq_129_22 hGu, ↓gq_129_23 hGu, ↓gq_129_24 hGu, ↓gq_129_25 hGu, ↓gq_129_26 hGu, ↓gq_129_28 hGu, ↓gq_129_29 hGu, ↓gq_129_33 hGu, ↓gq_129_34 hGu, ↓gq_129_35 hGu, ↓gq_129_36 hGu, g_129_0 hGu, g_129_1 hGu, g_129_2 hGu, g_129_3 hGu, g_129_7 hGu, g_129_10 hGu, g_129_11 hGu, g_129_12 hGu, g_129_13 hGu, g_129_19 hGu, g_129_21 hGu, g_129_22 hGu, g_129_23 hGu, g_129_24 hGu, g_129_25 hGu, g_129_26 hGu, g_129_28 hGu, g_129_29 hGu, g_129_33 hGu, g_129_34 hGu, g_129_35 hGu, g_129_36 hGu]
          · rw [if_neg c] at hmi
            rw [hmi]
            clear hv hmi
            have hz3 := hzw
            clear hzw
            simp (disch := omega) only [hsz, zi16, f0, f2, q130, hw, hz3, zu_same, zwi, ↓zcall_ok, zcall_ok, ↓zjn_ok, zjn_ok, ↓zbl_0, zbl_0, ↓zbl_1, zbl_1, ↓if_pos, if_pos, ↓if_neg, if_neg, ↓zb_ite, zb_ite, ↓zb_itn, zb_itn, ↓gf_129, gf_129, ↓pf_129, pf_129, ↓vc_129, vc_129, ↓al_130, al_130, ↓as_130, as_130, ↓ln_130, ln_130, ↓al_141, al_141, ↓as_141, as_141, ↓ln_141, ln_141, ↓al_142, al_142, ↓as_142, as_142, ↓ln_142, ln_142, ↓al_143, al_143, ↓as_143, as_143, ↓ln_143, ln_143, ↓al_144, al_144, ↓as_144, as_144, ↓ln_144, ln_144, if_true, if_false, not_true_eq_false, not_false_eq_true, zu_eq, zu_a, zu_j, ge_iff_le, gt_iff_lt, ne_eq, Int.cast_ofNat_Int, Int.add_zero, Int.zero_add, Int.reduceAdd, Int.reduceSub, Int.reduceMul, Int.reduceNeg, ↓gq_129_0 hGu, ↓gq_129_1 hGu, ↓gq_129_2 hGu, ↓gq_129_3 hGu, ↓gq_129_7 hGu, ↓gq_129_10 hGu, ↓gq_129_11 hGu, ↓gq_129_12 hGu, ↓gq_129_13 hGu, ↓gq_129_19 hGu, ↓gq_129_21 hGu, ↓gq_129_22 hGu, ↓gq_129_23 hGu, ↓gq_129_24 hGu, ↓gq_129_25 hGu, ↓gq_129_26 hGu, ↓gq_129_28 hGu, ↓gq_129_29 hGu, ↓gq_129_33 hGu, ↓gq_129_34 hGu, ↓gq_129_35 hGu, ↓gq_129_36 hGu, g_129_0 hGu, g_129_1 hGu, g_129_2 hGu, g_129_3 hGu, g_129_7 hGu, g_129_10 hGu, g_129_11 hGu, g_129_12 hGu, g_129_13 hGu, g_129_19 hGu, g_129_21 hGu, g_129_22 hGu, g_129_23 hGu, g_129_24 hGu, g_129_25 hGu, g_129_26 hGu, g_129_28 hGu, g_129_29 hGu, g_129_33 hGu, g_129_34 hGu, g_129_35 hGu, g_129_36 hGu]
    · have ho : own e = false := by rw [hown]; exact decide_eq_false hw
      refine ⟨a, (m : Int) + 1, u, ⟨A ++ [e], B, i1', i2', by omega, by rw [zfa_1 (zhr_n ho), List.length_append, hm]; simp, by rw [zfa_1 (zhr_n ho), List.append_assoc, List.singleton_append]; exact i5, i6⟩, ?_⟩
      have hup : zw32 ((m : Int) + 1) = (m : Int) + 1 := zw32_id (by omega) (by omega)
      have hself := zu_self f2
      have hl9 : e.2.2.1 ≤ 999 := o3.2
      rw [← hup]
      clear hup i1 i5 i6 hR hok hown o2 o3 o4 hG hlc hat h01 hl1 hl2 f3 f1 i3 i1' i2' hm
      simp (disch := omega) only [hsz, zi16, f0, f2, q130, hw, hself, zwi, ↓zcall_ok, zcall_ok, ↓zjn_ok, zjn_ok, ↓zbl_0, zbl_0, ↓zbl_1, zbl_1, ↓if_pos, if_pos, ↓if_neg, if_neg, ↓zb_ite, zb_ite, ↓zb_itn, zb_itn, ↓gf_129, gf_129, ↓pf_129, pf_129, ↓vc_129, vc_129, ↓al_130, al_130, ↓as_130, as_130, ↓ln_130, ln_130, ↓al_141, al_141, ↓as_141, as_141, ↓ln_141, ln_141, ↓al_142, al_142, ↓as_142, as_142, ↓ln_142, ln_142, ↓al_143, al_143, ↓as_143, as_143, ↓ln_143, ln_143, ↓al_144, al_144, ↓as_144, as_144, ↓ln_144, ln_144, if_true, if_false, not_true_eq_false, not_false_eq_true, zu_eq, zu_a, zu_j, ge_iff_le, gt_iff_lt, ne_eq, Int.cast_ofNat_Int, Int.add_zero, Int.zero_add, Int.reduceAdd, Int.reduceSub, Int.reduceMul, Int.reduceNeg, ↓gq_129_0 hGu, ↓gq_129_1 hGu, ↓gq_129_2 hGu, ↓gq_129_3 hGu, ↓gq_129_7 hGu, ↓gq_129_10 hGu, ↓gq_129_11 hGu, ↓gq_129_12 hGu, ↓gq_129_13 hGu, ↓gq_129_19 hGu, ↓gq_129_21 hGu, ↓gq_129_22 hGu, ↓gq_129_23 hGu, ↓gq_129_24 hGu, ↓gq_129_25 hGu, ↓gq_129_26 hGu, ↓gq_129_28 hGu, ↓gq_129_29 hGu, ↓gq_129_33 hGu, ↓gq_129_34 hGu, ↓gq_129_35 hGu, ↓gq_129_36 hGu, g_129_0 hGu, g_129_1 hGu, g_129_2 hGu, g_129_3 hGu, g_129_7 hGu, g_129_10 hGu, g_129_11 hGu, g_129_12 hGu, g_129_13 hGu, g_129_19 hGu, g_129_21 hGu, g_129_22 hGu, g_129_23 hGu, g_129_24 hGu, g_129_25 hGu, g_129_26 hGu, g_129_28 hGu, g_129_29 hGu, g_129_33 hGu, g_129_34 hGu, g_129_35 hGu, g_129_36 hGu]
  · obtain ⟨A, B, i1, i2, i3, i4, i5, i6⟩ := hI
    have hB : B = [] := by
      have : L.length = A.length + B.length := by rw [i1]; simp
      exact List.length_eq_zero_iff.mp (by omega)
    subst hB
    rw [List.append_nil] at i1 i5
    subst i1
    have hGu := zoR_G0 i6 hG
    have q1 := i5.1
    refine ⟨_, u, ?_, rfl, i5, i6⟩
    rw [← i4] at q1 ⊢
    rw [i3]
    clear i5 i6 hR hok hown hG i3
    simp (disch := omega) only [q1, ↓zcall_ok, zcall_ok, ↓zjn_ok, zjn_ok, ↓zbl_0, zbl_0, ↓zbl_1, zbl_1, ↓if_pos, if_pos, ↓if_neg, if_neg, ↓zb_ite, zb_ite, ↓zb_itn, zb_itn, ↓gf_129, gf_129, ↓pf_129, pf_129, ↓vc_129, vc_129, ↓al_141, al_141, ↓as_141, as_141, ↓ln_141, ln_141, if_true, if_false, not_true_eq_false, not_false_eq_true, zu_eq, zu_a, zu_j, ge_iff_le, gt_iff_lt, ne_eq, Int.cast_ofNat_Int, Int.add_zero, Int.zero_add, Int.reduceAdd, Int.reduceSub, Int.reduceMul, Int.reduceNeg, ↓gq_129_0 hGu, ↓gq_129_1 hGu, ↓gq_129_2 hGu, ↓gq_129_3 hGu, ↓gq_129_7 hGu, ↓gq_129_10 hGu, ↓gq_129_11 hGu, ↓gq_129_12 hGu, ↓gq_129_13 hGu, ↓gq_129_19 hGu, ↓gq_129_21 hGu, ↓gq_129_22 hGu, ↓gq_129_23 hGu, ↓gq_129_24 hGu, ↓gq_129_25 hGu, ↓gq_129_26 hGu, ↓gq_129_28 hGu, ↓gq_129_29 hGu, ↓gq_129_33 hGu, ↓gq_129_34 hGu, ↓gq_129_35 hGu, ↓gq_129_36 hGu, g_129_0 hGu, g_129_1 hGu, g_129_2 hGu, g_129_3 hGu, g_129_7 hGu, g_129_10 hGu, g_129_11 hGu, g_129_12 hGu, g_129_13 hGu, g_129_19 hGu, g_129_21 hGu, g_129_22 hGu, g_129_23 hGu, g_129_24 hGu, g_129_25 hGu, g_129_26 hGu, g_129_28 hGu, g_129_29 hGu, g_129_33 hGu, g_129_34 hGu, g_129_35 hGu, g_129_36 hGu]
set_option maxHeartbeats 400000 in
theorem op_read {μ : zMem} (hG : zG0 μ) (hS : zGS μ) (hP : zGP μ) (p who : Int) : ∃ r μ1 μ2, fX10_read 5 p who μ = some (r, μ1) ∧ fX11_read 129 p who μ1 = some (r, μ2) ∧ zGP μ2 := by
  have hPc := hP
  obtain ⟨⟨h0, h1, h2⟩, h3⟩ := hPc
  have s1 := hS.2.1
  simp only [eX11_read]
  unfold fX10_read
  by_cases hp : 0 ≤ p ∧ p < μ 34 3
  rotate_left
  · have e1 : fX1_paper 34 p μ = some (-1, μ) := by rw [s1_paper hG h1, if_neg hp]
    refine ⟨-1, μ, μ, ?_, ?_, hP⟩
    · simp (disch := omega) only [↓(vq_34 e1), ↓zcall_ok, zcall_ok, ↓zjn_ok, zjn_ok, ↓zbl_0, zbl_0, ↓zbl_1, zbl_1, ↓if_pos, if_pos, ↓if_neg, if_neg, ↓zb_ite, zb_ite, ↓zb_itn, zb_itn, ↓gf_5, gf_5, ↓pf_5, pf_5, ↓vc_5, vc_5, ↓gf_34, gf_34, ↓pf_34, pf_34, ↓vc_34, vc_34, if_true, if_false, not_true_eq_false, not_false_eq_true, zu_eq, zu_a, zu_j, ge_iff_le, gt_iff_lt, ne_eq, Int.cast_ofNat_Int, Int.add_zero, Int.zero_add, Int.reduceAdd, Int.reduceSub, Int.reduceMul, Int.reduceNeg, ↓gq_5_0 hG, ↓gq_5_1 hG, ↓gq_5_2 hG, ↓gq_5_3 hG, ↓gq_5_4 hG, ↓gq_5_5 hG, ↓gq_5_6 hG, ↓gq_34_0 hG, ↓gq_34_1 hG, ↓gq_34_2 hG, g_5_0 hG, g_5_1 hG, g_5_2 hG, g_5_3 hG, g_5_4 hG, g_5_5 hG, g_5_6 hG, g_34_0 hG, g_34_1 hG, g_34_2 hG]
    · simp (disch := omega) only [↓(vq_129 (s11_isPaper hP p)), ↓zcall_ok, zcall_ok, ↓zjn_ok, zjn_ok, ↓zbl_0, zbl_0, ↓zbl_1, zbl_1, ↓if_pos, if_pos, ↓if_neg, if_neg, ↓zb_ite, zb_ite, ↓zb_itn, zb_itn, ↓gf_129, gf_129, ↓pf_129, pf_129, ↓vc_129, vc_129, if_true, if_false, not_true_eq_false, not_false_eq_true, zu_eq, zu_a, zu_j, ge_iff_le, gt_iff_lt, ne_eq, Int.cast_ofNat_Int, Int.add_zero, Int.zero_add, Int.reduceAdd, Int.reduceSub, Int.reduceMul, Int.reduceNeg, ↓gq_129_0 hG, ↓gq_129_1 hG, ↓gq_129_2 hG, ↓gq_129_3 hG, ↓gq_129_7 hG, ↓gq_129_10 hG, ↓gq_129_11 hG, ↓gq_129_12 hG, ↓gq_129_13 hG, ↓gq_129_19 hG, ↓gq_129_21 hG, ↓gq_129_22 hG, ↓gq_129_23 hG, ↓gq_129_24 hG, ↓gq_129_25 hG, ↓gq_129_26 hG, ↓gq_129_28 hG, ↓gq_129_29 hG, ↓gq_129_33 hG, ↓gq_129_34 hG, ↓gq_129_35 hG, ↓gq_129_36 hG, g_129_0 hG, g_129_1 hG, g_129_2 hG, g_129_3 hG, g_129_7 hG, g_129_10 hG, g_129_11 hG, g_129_12 hG, g_129_13 hG, g_129_19 hG, g_129_21 hG, g_129_22 hG, g_129_23 hG, g_129_24 hG, g_129_25 hG, g_129_26 hG, g_129_28 hG, g_129_29 hG, g_129_33 hG, g_129_34 hG, g_129_35 hG, g_129_36 hG]
  have hp10 : p < 10 := by omega
  have hz : zbP p = 53 + 6 * p := rfl
  have e1 : fX1_paper 34 p μ = some (zbP p, μ) := by rw [s1_paper hG h1, if_pos hp]
  by_cases hw : 0 ≤ who ∧ who ≤ 10
  rotate_left
  · refine ⟨-1, μ, μ, ?_, ?_, hP⟩
    · by_cases c : who < 0
      · simp (disch := omega) only [↓(vq_34 e1), ↓zcall_ok, zcall_ok, ↓zjn_ok, zjn_ok, ↓zbl_0, zbl_0, ↓zbl_1, zbl_1, ↓if_pos, if_pos, ↓if_neg, if_neg, ↓zb_ite, zb_ite, ↓zb_itn, zb_itn, ↓gf_5, gf_5, ↓pf_5, pf_5, ↓vc_5, vc_5, ↓gf_34, gf_34, ↓pf_34, pf_34, ↓vc_34, vc_34, if_true, if_false, not_true_eq_false, not_false_eq_true, zu_eq, zu_a, zu_j, ge_iff_le, gt_iff_lt, ne_eq, Int.cast_ofNat_Int, Int.add_zero, Int.zero_add, Int.reduceAdd, Int.reduceSub, Int.reduceMul, Int.reduceNeg, ↓gq_5_0 hG, ↓gq_5_1 hG, ↓gq_5_2 hG, ↓gq_5_3 hG, ↓gq_5_4 hG, ↓gq_5_5 hG, ↓gq_5_6 hG, ↓gq_34_0 hG, ↓gq_34_1 hG, ↓gq_34_2 hG, g_5_0 hG, g_5_1 hG, g_5_2 hG, g_5_3 hG, g_5_4 hG, g_5_5 hG, g_5_6 hG, g_34_0 hG, g_34_1 hG, g_34_2 hG]
      · simp (disch := omega) only [↓(vq_34 e1), ↓zcall_ok, zcall_ok, ↓zjn_ok, zjn_ok, ↓zbl_0, zbl_0, ↓zbl_1, zbl_1, ↓if_pos, if_pos, ↓if_neg, if_neg, ↓zb_ite, zb_ite, ↓zb_itn, zb_itn, ↓gf_5, gf_5, ↓pf_5, pf_5, ↓vc_5, vc_5, ↓gf_34, gf_34, ↓pf_34, pf_34, ↓vc_34, vc_34, if_true, if_false, not_true_eq_false, not_false_eq_true, zu_eq, zu_a, zu_j, ge_iff_le, gt_iff_lt, ne_eq, Int.cast_ofNat_Int, Int.add_zero, Int.zero_add, Int.reduceAdd, Int.reduceSub, Int.reduceMul, Int.reduceNeg, ↓gq_5_0 hG, ↓gq_5_1 hG, ↓gq_5_2 hG, ↓gq_5_3 hG, ↓gq_5_4 hG, ↓gq_5_5 hG, ↓gq_5_6 hG, ↓gq_34_0 hG, ↓gq_34_1 hG, ↓gq_34_2 hG, g_5_0 hG, g_5_1 hG, g_5_2 hG, g_5_3 hG, g_5_4 hG, g_5_5 hG, g_5_6 hG, g_34_0 hG, g_34_1 hG, g_34_2 hG]
    · simp (disch := omega) only [↓(vq_129 (s11_isPaper hP p)), ↓(zcall_of (s11_within who 0 10)), ↓zcall_ok, zcall_ok, ↓zjn_ok, zjn_ok, ↓zbl_0, zbl_0, ↓zbl_1, zbl_1, ↓if_pos, if_pos, ↓if_neg, if_neg, ↓zb_ite, zb_ite, ↓zb_itn, zb_itn, ↓gf_129, gf_129, ↓pf_129, pf_129, ↓vc_129, vc_129, if_true, if_false, not_true_eq_false, not_false_eq_true, zu_eq, zu_a, zu_j, ge_iff_le, gt_iff_lt, ne_eq, Int.cast_ofNat_Int, Int.add_zero, Int.zero_add, Int.reduceAdd, Int.reduceSub, Int.reduceMul, Int.reduceNeg, ↓gq_129_0 hG, ↓gq_129_1 hG, ↓gq_129_2 hG, ↓gq_129_3 hG, ↓gq_129_7 hG, ↓gq_129_10 hG, ↓gq_129_11 hG, ↓gq_129_12 hG, ↓gq_129_13 hG, ↓gq_129_19 hG, ↓gq_129_21 hG, ↓gq_129_22 hG, ↓gq_129_23 hG, ↓gq_129_24 hG, ↓gq_129_25 hG, ↓gq_129_26 hG, ↓gq_129_28 hG, ↓gq_129_29 hG, ↓gq_129_33 hG, ↓gq_129_34 hG, ↓gq_129_35 hG, ↓gq_129_36 hG, g_129_0 hG, g_129_1 hG, g_129_2 hG, g_129_3 hG, g_129_7 hG, g_129_10 hG, g_129_11 hG, g_129_12 hG, g_129_13 hG, g_129_19 hG, g_129_21 hG, g_129_22 hG, g_129_23 hG, g_129_24 hG, g_129_25 hG, g_129_26 hG, g_129_28 hG, g_129_29 hG, g_129_33 hG, g_129_34 hG, g_129_35 hG, g_129_36 hG]
  obtain ⟨hC, hR, hok, hwr⟩ := zPp_L (h3 p hp.1 hp.2)
  obtain ⟨L, hL⟩ : ∃ L, L = zLs μ p := ⟨_, rfl⟩
  rw [← hL] at hC hR hok
  obtain ⟨own, hown⟩ : ∃ own : zEn → Bool, ∀ e, own e = decide (μ 8 e.1 = who) := ⟨_, fun _ => rfl⟩
  obtain ⟨r, μ1, c1, rfl, c2, c3⟩ := c_hear hG hp.1 hp10 hC hok s1 hown
  have hG1 := zoC_G0 hp.1 hp10 c3 hG
  obtain ⟨own2, hown2⟩ : ∃ own2 : zEn → Bool, ∀ e, own2 e = decide (μ1 130 e.1 = who) := ⟨_, fun _ => rfl⟩
  obtain ⟨r, μ2, r1, rfl, r2, r3⟩ := r_read hG1 hp.1 hp10 (zpR_C hR c3 hp.1 hp10) hok s1 hown2
  have hsame : L.filterMap (zhr own2) = L.filterMap (zhr own) := by
    refine zfm_cg (fun e he => ?_)
    have ho := (hok.2.1 e he).1
    have y := (zsayok hS ho.1 ho.2).2.2.2.2.2.1
    have : own2 e = own e := by
      rw [hown, hown2, c3 _ _ (by omega) (by omega), y]
    unfold zhr
    rw [this]
  rw [hsame] at r1 r2
  have q20 : μ1 129 20 = μ 34 3 := (c3 _ _ (by omega) (by omega)).trans h2
  have f1 := r_isPaper q20 h0 h1 p
  rw [zb_t hp] at f1
  have f2 : fX11_within who 0 10 μ1 = some (1, μ1) := by rw [s11_within, zb_t hw]
  refine ⟨(L.length : Int) - (L.filterMap (zhr own)).length, μ1, μ2, ?_, ?_, ?_⟩
  rotate_left
  · rw [vq_129 f1, if_neg (by decide), zcall_of f2, if_pos (by decide)]
    exact r1
  · refine zGP_upd hP hp.1 hp10 (zoP_t (zoP_C c3) (zoP_R r3)) (n := μ 34 3) ⟨?_, ?_, h0, h1⟩ (fun q _ q1 _ => q1) (zPp_of (zpC_R c2 r3 hp.1 hp10) r2 (zlok_fm hok own) ?_)
    · exact (r3 _ _ (by omega) (by omega)).trans (c3 _ _ (by omega) (by omega))
    · exact (r3 _ _ (by omega) (by omega)).trans q20
    · have w1 : μ2 140 p = μ 140 p := (r3 _ _ (by omega) (by omega)).trans (c3 _ _ (by omega) (by omega))
      have w2 : μ2 (zbP p) 2 = μ (zbP p) 2 := (r3 _ _ (by omega) (by omega)).trans (c3 _ _ (by omega) (by omega))
      rw [w1, w2]
      exact hwr
  · have hpn : ¬ zbP p = -1 := by omega
    have hw0 : ¬ who < 0 := by omega
    rw [gq_5_4 hG, vq_34 e1, if_neg hpn, if_neg hw0, if_pos hw.2, gq_5_0 hG, vcP_of hp.1 hp10 c1]
