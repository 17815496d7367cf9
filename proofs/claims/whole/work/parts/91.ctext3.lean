/-! ===== the class reads a text: levels, lines, all of it ===== -/
set_option maxHeartbeats 400000 in
theorem t_un {μ : zMem} {T : Nat → Int} {n : Nat} {sub : Nat → zRp} {S : zMem → zRs} (H : zTx μ T n) (hgd : zgd n sub) (hS : zCI μ n sub S) {w e : Int} (he0 : 0 ≤ e) (he1 : e < 1000) (hw : 0 ≤ w) {u : zMem} {a : Nat} {C : List Int} (hu : zoT μ u) (ha : u 18 4 = a) (hf : u 18 5 = -1) (hC : zcd u C) (ha2 : a ≤ n) (hCl : C.length ≤ a) (hg : zgn T n a = w) :
    (∀ g, zpB (sub (a + 1)) (fun a' cs => .inr (a', cs ++ [10000 + e])) = .inl g → zCl μ (fun u => zvc 9 18 (S (zupd u 18 4 ((a + 1 : Nat) : Int))) (fun _ u16 => zvc 9 18 (fX9_emit 18 e u16) (fun _ u17 => some (0, u17)))) g u) ∧
    ∀ a' cs, zpB (sub (a + 1)) (fun a' cs => .inr (a', cs ++ [10000 + e])) = .inr (a', cs) → zCr μ (fun u => zvc 9 18 (S (zupd u 18 4 ((a + 1 : Nat) : Int))) (fun _ u16 => zvc 9 18 (fX9_emit 18 e u16) (fun _ u17 => some (0, u17)))) a' (C ++ cs) u := by
  have h120 := H.2.2.1
  have haN := zgn_lt (T := T) (n := n) (a := a) (by omega)
  obtain ⟨x1, x2⟩ := hS.1 (zupd u 18 4 ((a + 1 : Nat) : Int)) (a + 1) C (zoT_t hu zoT_4) zu_eq ((zu_j (by decide)).trans hf) (zcd_4 hC) (by omega) (by omega)
  cases e2 : sub (a + 1) with
  | inl g =>
    rw [zpB_l]
    refine ⟨fun g' h => ?_, fun a' cs h => (by cases h)⟩
    cases h
    obtain ⟨u3, d1, d2, d3, d4, d5⟩ := x1 g e2
    obtain ⟨u4, f1, f2, f3, f4, f5, f6⟩ := t_emit_f (v := e) (zoT_G0 d2 H.1) d4 d5
    refine ⟨u4, ?_, zoT_t d2 f2, f4.trans d3, f5, f6⟩
    show zvc 9 18 (S _) _ = _
    rw [vq_18 d1, vq_18 f1]
  | inr q =>
    obtain ⟨a'', ds⟩ := q
    obtain ⟨w1, w2, -⟩ := (hgd (a + 1) (by omega)).2 a'' ds e2
    obtain ⟨u3, d1, d2, d3, d4, d5⟩ := x2 a'' ds e2
    obtain ⟨u4, f1, f2, f3, f4, f5⟩ := t_emit (v := e) (zoT_G0 d2 H.1) d5 (by rw [List.length_append]; omega) he0 (by omega)
    refine ⟨fun g' h => (by cases h), fun x xs h => ?_⟩
    rw [zpB_r] at h
    cases h
    refine ⟨u4, ?_, zoT_t d2 f2, f3.trans d3, f4.trans d4, ?_⟩
    · show zvc 9 18 (S _) _ = _
      rw [vq_18 d1, vq_18 f1]
    · rw [List.append_assoc] at f5
      exact f5
set_option maxHeartbeats 400000 in
theorem t_operand {μ : zMem} {T : Nat → Int} {n d : Nat} {E O : Nat → zRp} (H : zTx μ T n) (o : Int) (ho : o + (d : Int) = 6) (ho0 : 0 ≤ o) (rec : (Int → Int → zMem → zRs) × (Int → Int → zMem → zRs) × (Int → Int → zMem → zRs) × (Int → Int → zMem → zRs) × (Int → Int → zMem → zRs) × (Int → Int → zMem → zRs))
    (gE : d ≠ 0 → zgd n E) (gO : d ≠ 0 → zgd n O) (hE : d ≠ 0 → zCI μ n E (fun u => rec.1 18 (o + 1) u)) (hO : d ≠ 0 → zCI μ n O (fun u => rec.2.2.2.2.2 18 (o + 1) u)) : zCI μ n (zod d E O (zgn T n)) (fun u => gX9_either_b5 rec 18 o u) := by
  have h120 := H.2.2.1
  have ho1 : zw32 (o + 1) = o + 1 := zw32_id (by omega) (by omega)
  refine ⟨fun u a C hu ha hf hC ha2 hCl => ?_, fun u hu hf => ?_⟩
  · have hs := t_sign H hu ha hf
    have hdg := t_isDigit (u := u) (zgn T n a)
    have hnm := t_nameOf (u := u) (zgn T n a)
    have p40 := t_passes (w := 40) H hu ha ha2 hf
    have p33 := t_passes (w := 33) H hu ha ha2 hf
    have p45 := t_passes (w := 45) H hu ha ha2 hf
    have hfail := t_fail ha hf
    unfold zod
    by_cases c1 : zdig (zgn T n a) = true
    · rw [if_pos c1] at hdg ⊢
      obtain ⟨u', d1, d2⟩ := t_number H hu ha hf hC ha2 (by omega)
      refine ⟨fun g h => (by cases h), fun a' cs h => ?_⟩
      cases h
      refine ⟨u', ?_, d2⟩
      show gX9_either_b5 rec 18 o u = _
      unfold gX9_either_b5
      rw [vq_18 hs, zcall_of hdg, if_neg (by decide), vq_18 d1]
    rw [if_neg c1] at hdg ⊢
    by_cases c2 : 0 ≤ znk (zgn T n a)
    · rw [if_pos c2]
      have hk := znk_in c2
      have haN := zgn_lt (T := T) (n := n) (a := a) (by omega)
      have hn0 : ¬ znk (zgn T n a) < 0 := by omega
      obtain ⟨u', d1, d2, d3, d4, d5⟩ := t_emit (v := zgn T n a) (zoT_G0 (zoT_t hu zoT_4) H.1) (zcd_4 (v := ((a + 1 : Nat) : Int)) hC) (by omega) (by omega) (by omega)
      refine ⟨fun g h => (by cases h), fun a' cs h => ?_⟩
      cases h
      refine ⟨u', ?_, zoT_t (zoT_t hu zoT_4) d2, d3.trans zu_eq, d4.trans ((zu_j (by decide)).trans hf), d5⟩
      show gX9_either_b5 rec 18 o u = _
      unfold gX9_either_b5
      rw [vq_18 hs, zcall_of hdg, if_pos rfl, zcall_of hnm, if_neg hn0, gf_18, show ((4 : Nat) : Int) = 4 from rfl, ha, zupn (n := a) (by omega), pf_18, show ((4 : Nat) : Int) = 4 from rfl, vq_18 d1]
    rw [if_neg c2]
    have hn0 : znk (zgn T n a) < 0 := by omega
    by_cases c3 : d = 0
    · rw [if_pos c3]
      have ho6 : o ≥ 6 := by omega
      refine ⟨fun g h => ?_, fun a' cs h => (by cases h)⟩
      cases h
      refine ⟨zupd u 18 5 a, ?_, zoT_t hu zoT_5, zu_eq, ?_, ?_⟩
      · show gX9_either_b5 rec 18 o u = _
        unfold gX9_either_b5
        clear H hu hC p40 p33 p45 gE gO hE hO
        simp (disch := omega) only [↓(vq_18 hs), ↓(zcall_of hdg), ↓(zcall_of hnm), ↓(vq_18 hfail), ↓zcall_ok, zcall_ok, ↓zjn_ok, zjn_ok, ↓zbl_0, zbl_0, ↓zbl_1, zbl_1, ↓if_pos, if_pos, ↓if_neg, if_neg, ↓zb_ite, zb_ite, ↓zb_itn, zb_itn, ↓gf_18, gf_18, ↓pf_18, pf_18, ↓vc_18, vc_18, if_true, if_false, not_true_eq_false, not_false_eq_true, zu_eq, zu_a, zu_j, ge_iff_le, gt_iff_lt, ne_eq, Int.cast_ofNat_Int, Int.add_zero, Int.zero_add, Int.reduceAdd, Int.reduceSub, Int.reduceMul, Int.reduceNeg]
      · rw [zu_j (by decide), hC.1]; omega
      · rw [zu_j (by decide), hC.1]; omega
    rw [if_neg c3]
    have ho6 : ¬ o ≥ 6 := by omega
    by_cases c4 : zgn T n a = 40
    · rw [if_pos c4] at p40 ⊢
      have haN := zgn_lt (T := T) (n := n) (a := a) (by omega)
      obtain ⟨x1, x2⟩ := (hE c3).1 (zupd u 18 4 ((a + 1 : Nat) : Int)) (a + 1) C (zoT_t hu zoT_4) zu_eq ((zu_j (by decide)).trans hf) (zcd_4 hC) (by omega) (by omega)
      have go : ∀ u2 w, rec.1 18 (o + 1) (zupd u 18 4 ((a + 1 : Nat) : Int)) = some (0, u2) → zvc 9 18 (fX9_passes 18 41 u2) (fun v25 u26 => if v25 ≠ 0 then (some (0, u26)) else (zvc 9 18 (fX9_fail 18 u26) (fun _ u27 => some (0, u27)))) = w → gX9_either_b5 rec 18 o u = w := fun u2 w q1 q2 => by
        unfold gX9_either_b5
        rw [vq_18 hs, zcall_of hdg, if_pos rfl, zcall_of hnm, if_pos hn0, zjn_ok, if_neg ho6, vq_18 p40, if_neg (by decide), ho1, vq_18 q1]
        exact q2
      cases e : E (a + 1) with
      | inl g =>
        rw [zpB_l]
        refine ⟨fun g' h => ?_, fun a' cs h => (by cases h)⟩
        cases h
        obtain ⟨u2, b1, b2, b3, b4, b5⟩ := x1 g e
        refine ⟨u2, go u2 _ b1 ?_, b2, b3, b4, b5⟩
        rw [vq_18 (t_passes_f (by omega) (by decide)), if_neg (by decide), vq_18 (t_fail_f (by omega))]
      | inr q =>
        obtain ⟨a', cs⟩ := q
        obtain ⟨t1, t2, -⟩ := (gE c3 (a + 1) (by omega)).2 a' cs e
        obtain ⟨u2, b1, b2, b3, b4, b5⟩ := x2 a' cs e
        have p41 := t_passes (w := 41) H b2 b3 t2 b4
        rw [zpB_r]
        by_cases c5 : zgn T n a' = 41
        · rw [if_pos c5] at p41 ⊢
          refine ⟨fun g' h => (by cases h), fun x xs h => ?_⟩
          cases h
          refine ⟨_, go u2 _ b1 ?_, zoT_t b2 zoT_4, zu_eq, (zu_j (by decide)).trans b4, zcd_4 b5⟩
          rw [vq_18 p41, if_pos (by decide)]
        · rw [if_neg c5] at p41 ⊢
          refine ⟨fun g' h => ?_, fun x xs h => (by cases h)⟩
          cases h
          refine ⟨zupd u2 18 5 a', go u2 _ b1 ?_, zoT_t b2 zoT_5, zu_eq, ?_, ?_⟩
          · rw [vq_18 p41, if_neg (by decide), vq_18 (t_fail b3 b4)]
          · rw [zu_j (by decide), b5.1]; omega
          · rw [zu_j (by decide), b5.1, List.length_append]; omega
    rw [if_neg c4] at p40 ⊢
    by_cases c5 : zgn T n a = 33
    · rw [if_pos c5] at p33 ⊢
      obtain ⟨x1, x2⟩ := t_un (w := 33) (e := 33) H (gO c3) (hO c3) (by decide) (by decide) (by decide) hu ha hf hC ha2 hCl c5
      have go : gX9_either_b5 rec 18 o u = zvc 9 18 (rec.2.2.2.2.2 18 (o + 1) (zupd u 18 4 ((a + 1 : Nat) : Int))) (fun _ u16 => zvc 9 18 (fX9_emit 18 33 u16) (fun _ u17 => some (0, u17))) := by
        unfold gX9_either_b5
        clear H hu hC gE gO hE hO x1 x2
        simp (disch := omega) only [↓(vq_18 hs), ↓(zcall_of hdg), ↓(zcall_of hnm), ↓(vq_18 p40), ↓(vq_18 p33), ho1, ↓zcall_ok, zcall_ok, ↓zjn_ok, zjn_ok, ↓zbl_0, zbl_0, ↓zbl_1, zbl_1, ↓if_pos, if_pos, ↓if_neg, if_neg, ↓zb_ite, zb_ite, ↓zb_itn, zb_itn, ↓gf_18, gf_18, ↓pf_18, pf_18, ↓vc_18, vc_18, if_true, if_false, not_true_eq_false, not_false_eq_true, zu_eq, zu_a, zu_j, ge_iff_le, gt_iff_lt, ne_eq, Int.cast_ofNat_Int, Int.add_zero, Int.zero_add, Int.reduceAdd, Int.reduceSub, Int.reduceMul, Int.reduceNeg]
      refine ⟨fun g h => ?_, fun a' cs h => ?_⟩
      · obtain ⟨u', q1, q2⟩ := x1 g h
        exact ⟨u', go.trans q1, q2⟩
      · obtain ⟨u', q1, q2⟩ := x2 a' cs h
        exact ⟨u', go.trans q1, q2⟩
    rw [if_neg c5] at p33 ⊢
    by_cases c6 : zgn T n a = 45
    · rw [if_pos c6] at p45 ⊢
      obtain ⟨x1, x2⟩ := t_un (w := 45) (e := 126) H (gO c3) (hO c3) (by decide) (by decide) (by decide) hu ha hf hC ha2 hCl c6
      have go : gX9_either_b5 rec 18 o u = zvc 9 18 (rec.2.2.2.2.2 18 (o + 1) (zupd u 18 4 ((a + 1 : Nat) : Int))) (fun _ u16 => zvc 9 18 (fX9_emit 18 126 u16) (fun _ u17 => some (0, u17))) := by
        unfold gX9_either_b5
        clear H hu hC gE gO hE hO x1 x2
        simp (disch := omega) only [↓(vq_18 hs), ↓(zcall_of hdg), ↓(zcall_of hnm), ↓(vq_18 p40), ↓(vq_18 p33), ↓(vq_18 p45), ho1, ↓zcall_ok, zcall_ok, ↓zjn_ok, zjn_ok, ↓zbl_0, zbl_0, ↓zbl_1, zbl_1, ↓if_pos, if_pos, ↓if_neg, if_neg, ↓zb_ite, zb_ite, ↓zb_itn, zb_itn, ↓gf_18, gf_18, ↓pf_18, pf_18, ↓vc_18, vc_18, if_true, if_false, not_true_eq_false, not_false_eq_true, zu_eq, zu_a, zu_j, ge_iff_le, gt_iff_lt, ne_eq, Int.cast_ofNat_Int, Int.add_zero, Int.zero_add, Int.reduceAdd, Int.reduceSub, Int.reduceMul, Int.reduceNeg]
      refine ⟨fun g h => ?_, fun a' cs h => ?_⟩
      · obtain ⟨u', q1, q2⟩ := x1 g h
        exact ⟨u', go.trans q1, q2⟩
      · obtain ⟨u', q1, q2⟩ := x2 a' cs h
        exact ⟨u', go.trans q1, q2⟩
    · rw [if_neg c6] at p45 ⊢
      refine ⟨fun g h => ?_, fun a' cs h => (by cases h)⟩
      cases h
      refine ⟨zupd u 18 5 a, ?_, zoT_t hu zoT_5, zu_eq, ?_, ?_⟩
      · show gX9_either_b5 rec 18 o u = _
        unfold gX9_either_b5
        clear H hu hC gE gO hE hO
        simp (disch := omega) only [↓(vq_18 hs), ↓(zcall_of hdg), ↓(zcall_of hnm), ↓(vq_18 p40), ↓(vq_18 p33), ↓(vq_18 p45), ↓(vq_18 hfail), ↓zcall_ok, zcall_ok, ↓zjn_ok, zjn_ok, ↓zbl_0, zbl_0, ↓zbl_1, zbl_1, ↓if_pos, if_pos, ↓if_neg, if_neg, ↓zb_ite, zb_ite, ↓zb_itn, zb_itn, ↓gf_18, gf_18, ↓pf_18, pf_18, ↓vc_18, vc_18, if_true, if_false, not_true_eq_false, not_false_eq_true, zu_eq, zu_a, zu_j, ge_iff_le, gt_iff_lt, ne_eq, Int.cast_ofNat_Int, Int.add_zero, Int.zero_add, Int.reduceAdd, Int.reduceSub, Int.reduceMul, Int.reduceNeg]
      · rw [zu_j (by decide), hC.1]; omega
      · rw [zu_j (by decide), hC.1]; omega
  · have hs := t_sign_f hf
    have hdg := t_isDigit (u := u) (-1)
    have hnm := t_nameOf (u := u) (-1)
    rw [if_neg (by decide)] at hdg
    have p40 := t_passes_f (w := 40) hf (by decide)
    have p33 := t_passes_f (w := 33) hf (by decide)
    have p45 := t_passes_f (w := 45) hf (by decide)
    have hfail := t_fail_f hf
    have hn0 : znk (-1) < 0 := by decide
    show gX9_either_b5 rec 18 o u = _
    unfold gX9_either_b5
    by_cases ho6 : o ≥ 6
    · clear H hu gE gO hE hO
      simp (disch := omega) only [↓(vq_18 hs), ↓(zcall_of hdg), ↓(zcall_of hnm), ↓(vq_18 hfail), ↓zcall_ok, zcall_ok, ↓zjn_ok, zjn_ok, ↓zbl_0, zbl_0, ↓zbl_1, zbl_1, ↓if_pos, if_pos, ↓if_neg, if_neg, ↓zb_ite, zb_ite, ↓zb_itn, zb_itn, ↓gf_18, gf_18, ↓pf_18, pf_18, ↓vc_18, vc_18, if_true, if_false, not_true_eq_false, not_false_eq_true, zu_eq, zu_a, zu_j, ge_iff_le, gt_iff_lt, ne_eq, Int.cast_ofNat_Int, Int.add_zero, Int.zero_add, Int.reduceAdd, Int.reduceSub, Int.reduceMul, Int.reduceNeg]
    · clear H hu gE gO hE hO
      simp (disch := omega) only [↓(vq_18 hs), ↓(zcall_of hdg), ↓(zcall_of hnm), ↓(vq_18 p40), ↓(vq_18 p33), ↓(vq_18 p45), ↓(vq_18 hfail), ↓zcall_ok, zcall_ok, ↓zjn_ok, zjn_ok, ↓zbl_0, zbl_0, ↓zbl_1, zbl_1, ↓if_pos, if_pos, ↓if_neg, if_neg, ↓zb_ite, zb_ite, ↓zb_itn, zb_itn, ↓gf_18, gf_18, ↓pf_18, pf_18, ↓vc_18, vc_18, if_true, if_false, not_true_eq_false, not_false_eq_true, zu_eq, zu_a, zu_j, ge_iff_le, gt_iff_lt, ne_eq, Int.cast_ofNat_Int, Int.add_zero, Int.zero_add, Int.reduceAdd, Int.reduceSub, Int.reduceMul, Int.reduceNeg]
set_option maxHeartbeats 400000 in
theorem t_P {μ : zMem} {T : Nat → Int} {n M : Nat} {O : Nat → zRp} (H : zTx μ T n) (o : Int) (g : zgd n O) (h : ∀ N, M ≤ N → zCI μ n O (fun u => (gX9_either N).2.2.2.2.2 18 o u)) (N : Nat) (hN : M + 1 ≤ N) : zCI μ n (zpP O (zgn T n)) (fun u => (gX9_either N).2.2.2.2.1 18 o u) := by
  obtain ⟨N', rfl⟩ : ∃ N', N = N' + 1 := ⟨N - 1, by omega⟩
  exact t_seq g (h N' (by omega)) (t_loopB H g (h N' (by omega)) zokM (by decide) (by decide) (by decide) (by decide) (fun g => decide_eq_true_iff))
set_option maxHeartbeats 400000 in
theorem t_S {μ : zMem} {T : Nat → Int} {n M : Nat} {O : Nat → zRp} (H : zTx μ T n) (o : Int) (g : zgd n O) (h : ∀ N, M ≤ N → zCI μ n O (fun u => (gX9_either N).2.2.2.2.2 18 o u)) (N : Nat) (hN : M + 2 ≤ N) : zCI μ n (zpU O (zgn T n)) (fun u => (gX9_either N).2.2.2.1 18 o u) := by
  obtain ⟨N', rfl⟩ : ∃ N', N = N' + 1 := ⟨N - 1, by omega⟩
  exact t_seq (zgd_P g) (t_P H o g h N' (by omega)) (t_loopB H (zgd_P g) (t_P H o g h N' (by omega)) zokA (by decide) (by decide) (by decide) (by decide) (fun g => by rw [zgA, decide_eq_true_iff]; omega))
set_option maxHeartbeats 400000 in
theorem t_K {μ : zMem} {T : Nat → Int} {n M : Nat} {O : Nat → zRp} (H : zTx μ T n) (o : Int) (g : zgd n O) (h : ∀ N, M ≤ N → zCI μ n O (fun u => (gX9_either N).2.2.2.2.2 18 o u)) (N : Nat) (hN : M + 3 ≤ N) : zCI μ n (zpK O (zgn T n)) (fun u => (gX9_either N).2.2.1 18 o u) := by
  obtain ⟨N', rfl⟩ : ∃ N', N = N' + 1 := ⟨N - 1, by omega⟩
  exact t_comp H (zgd_S g) (t_S H o g h N' (by omega))
set_option maxHeartbeats 400000 in
theorem t_D {μ : zMem} {T : Nat → Int} {n M : Nat} {O : Nat → zRp} (H : zTx μ T n) (o : Int) (g : zgd n O) (h : ∀ N, M ≤ N → zCI μ n O (fun u => (gX9_either N).2.2.2.2.2 18 o u)) (N : Nat) (hN : M + 4 ≤ N) : zCI μ n (zpD O (zgn T n)) (fun u => (gX9_either N).2.1 18 o u) := by
  obtain ⟨N', rfl⟩ : ∃ N', N = N' + 1 := ⟨N - 1, by omega⟩
  exact t_seq (zgd_K g) (t_K H o g h N' (by omega)) (t_loopA (w := 38) H (zgd_K g) (t_K H o g h N' (by omega)) (by decide) (by decide) (fun g => decide_eq_true_iff))
set_option maxHeartbeats 400000 in
theorem t_E {μ : zMem} {T : Nat → Int} {n M : Nat} {O : Nat → zRp} (H : zTx μ T n) (o : Int) (g : zgd n O) (h : ∀ N, M ≤ N → zCI μ n O (fun u => (gX9_either N).2.2.2.2.2 18 o u)) (N : Nat) (hN : M + 5 ≤ N) : zCI μ n (zpE O (zgn T n)) (fun u => (gX9_either N).1 18 o u) := by
  obtain ⟨N', rfl⟩ : ∃ N', N = N' + 1 := ⟨N - 1, by omega⟩
  exact t_seq (zgd_D g) (t_D H o g h N' (by omega)) (t_loopA (w := 124) H (zgd_D g) (t_D H o g h N' (by omega)) (by decide) (by decide) (fun g => decide_eq_true_iff))
set_option maxHeartbeats 400000 in
theorem t_O {μ : zMem} {T : Nat → Int} {n : Nat} (H : zTx μ T n) : ∀ (d : Nat) (o : Int), o + (d : Int) = 6 → 0 ≤ o → ∀ N, 6 * d + 1 ≤ N → zCI μ n (zpO (zgn T n) d) (fun u => (gX9_either N).2.2.2.2.2 18 o u)
  | 0, o, h1, h0, N, hN => by
    obtain ⟨N', rfl⟩ : ∃ N', N = N' + 1 := ⟨N - 1, by omega⟩
    exact t_operand H o h1 h0 (gX9_either N') (fun h => absurd rfl h) (fun h => absurd rfl h) (fun h => absurd rfl h) (fun h => absurd rfl h)
  | d + 1, o, h1, h0, N, hN => by
    obtain ⟨N', rfl⟩ : ∃ N', N = N' + 1 := ⟨N - 1, by omega⟩
    have ih := t_O H d (o + 1) (by omega) (by omega)
    exact t_operand H o h1 h0 (gX9_either N') (fun _ => zgd_E (zgd_O d)) (fun _ => zgd_O d) (fun _ => t_E H (o + 1) (zgd_O d) ih N' (by omega)) (fun _ => ih N' (by omega))
abbrev zpX (G : Nat → Int) : Nat → zRp := zpE (zpO G 6) G
set_option maxHeartbeats 400000 in
theorem t_either {μ : zMem} {T : Nat → Int} {n : Nat} (H : zTx μ T n) : zCI μ n (zpX (zgn T n)) (fun u => fX9_either 18 0 u) := t_E H 0 (zgd_O 6) (t_O H 6 0 (by decide) (by decide)) 200 (by decide)
/-! ### lines -/
abbrev zLn : Type := List Int × Option (List Int)
abbrev zRn : Type := Nat ⊕ (Nat × zLn)
abbrev zRt : Type := Nat ⊕ (Nat × List zLn)
def zlc : zLn → List Int
  | (cs, none) => cs ++ [10059]
  | (cs, some ds) => cs ++ 10063 :: (ds ++ [10059])
def zln (G : Nat → Int) (a : Nat) : zRn := match zpX G a with
  | .inl f => .inl f
  | .inr (a', cs) => if G a' = 63 then (match zpX G (a' + 1) with
    | .inl f => .inl f
    | .inr (a'', ds) => .inr (a'', (cs, some ds))) else .inr (a', (cs, none))
def zls (G : Nat → Int) : Nat → Nat → zRt
  | 0, a => .inr (a, [])
  | k + 1, a => if G a = 59 then (match zln G (a + 1) with
    | .inl f => .inl f
    | .inr (a', l) => (match zls G k a' with
      | .inl f => .inl f
      | .inr (a'', Ls) => .inr (a'', l :: Ls))) else .inr (a, [])
def ztx (G : Nat → Int) (n : Nat) : Nat ⊕ List zLn := match zln G 0 with
  | .inl f => .inl f
  | .inr (a, l) => (match zls G 120 a with
    | .inl f => .inl f
    | .inr (a', Ls) => if a' < n then .inl a' else .inr (l :: Ls))
set_option maxHeartbeats 400000 in
theorem zln_in {T : Nat → Int} {n a : Nat} (ha : a ≤ n) : (∀ g, zln (zgn T n) a = .inl g → g ≤ n) ∧ ∀ a' l, zln (zgn T n) a = .inr (a', l) → (zlc l).length + a ≤ a' + 1 ∧ a ≤ a' ∧ a' ≤ n := by
  have hg := zgd_E (T := T) (zgd_O (T := T) (n := n) 6)
  obtain ⟨s1, s2⟩ := hg a ha
  unfold zln
  cases e : zpX (zgn T n) a with
  | inl g => exact ⟨fun g' h => (by cases h; exact s1 g e), fun a' l h => (by cases h)⟩
  | inr q =>
    obtain ⟨a', cs⟩ := q
    obtain ⟨t1, t2, -⟩ := s2 a' cs e
    dsimp only
    by_cases c : zgn T n a' = 63
    · rw [if_pos c]
      have hlt := zgn_lt (T := T) (n := n) (a := a') (by omega)
      obtain ⟨w1, w2⟩ := hg (a' + 1) (by omega)
      cases e2 : zpX (zgn T n) (a' + 1) with
      | inl g => exact ⟨fun g' h => (by cases h; exact w1 g e2), fun a' l h => (by cases h)⟩
      | inr q =>
        obtain ⟨a'', ds⟩ := q
        obtain ⟨t3, t4, -⟩ := w2 a'' ds e2
        refine ⟨fun g' h => (by cases h), fun x l h => ?_⟩
        cases h
        refine ⟨?_, by omega, t4⟩
        show (cs ++ 10063 :: (ds ++ [10059])).length + a ≤ a'' + 1
        rw [List.length_append, List.length_cons, List.length_append]
        simp
        omega
    · rw [if_neg c]
      refine ⟨fun g' h => (by cases h), fun x l h => ?_⟩
      cases h
      refine ⟨?_, by omega, t2⟩
      show (cs ++ [10059]).length + a ≤ a' + 1
      rw [List.length_append]
      simp
      omega
set_option maxHeartbeats 400000 in
theorem t_line {μ : zMem} {T : Nat → Int} {n : Nat} (H : zTx μ T n) :
    (∀ (u : zMem) (a : Nat) (C : List Int), zoT μ u → u 18 4 = a → u 18 5 = -1 → zcd u C → a ≤ n → C.length ≤ a → (∀ g, zln (zgn T n) a = .inl g → zCl μ (fX9_line 18) g u) ∧ ∀ a' l, zln (zgn T n) a = .inr (a', l) → zCr μ (fX9_line 18) a' (C ++ zlc l) u) := by
  intro u a C hu ha hf hC ha2 hCl
  have h120 := H.2.2.1
  have hX := t_either H
  have hg := zgd_E (T := T) (zgd_O (T := T) (n := n) 6)
  obtain ⟨s1, s2⟩ := hX.1 u a C hu ha hf hC ha2 hCl
  unfold zln
  cases e : zpX (zgn T n) a with
  | inl g =>
    refine ⟨fun g' h => ?_, fun a' l h => (by cases h)⟩
    cases h
    obtain ⟨u2, b1, b2, b3, b4, b5⟩ := s1 g e
    obtain ⟨u4, f1, f2, f3, f4, f5, f6⟩ := t_emit_f (v := 59) (zoT_G0 b2 H.1) b4 b5
    refine ⟨u4, ?_, zoT_t b2 f2, f4.trans b3, f5, f6⟩
    unfold fX9_line
    rw [vq_18 b1, vq_18 (t_passes_f (by omega) (by decide)), zjn_ok, if_pos rfl]
    exact vq_18 f1
  | inr q =>
    obtain ⟨a', cs⟩ := q
    obtain ⟨t1, t2, -⟩ := (hg a ha2).2 a' cs e
    obtain ⟨u2, b1, b2, b3, b4, b5⟩ := s2 a' cs e
    have p63 := t_passes (w := 63) H b2 b3 t2 b4
    dsimp only
    by_cases c : zgn T n a' = 63
    · rw [if_pos c] at p63 ⊢
      have hlt := zgn_lt (T := T) (n := n) (a := a') (by omega)
      have hu3 := zoT_t b2 (zoT_4 (v := ((a' + 1 : Nat) : Int)))
      obtain ⟨u4, f1, f2, f3, f4, f5⟩ := t_emit (v := 63) (zoT_G0 hu3 H.1) (zcd_4 (v := ((a' + 1 : Nat) : Int)) b5) (by rw [List.length_append]; omega) (by decide) (by decide)
      have hu4 := zoT_t hu3 f2
      obtain ⟨x1, x2⟩ := hX.1 u4 (a' + 1) _ hu4 (f3.trans zu_eq) (f4.trans ((zu_j (by decide)).trans b4)) f5 (by omega) (by rw [List.length_append, List.length_append]; simp; omega)
      cases e2 : zpX (zgn T n) (a' + 1) with
      | inl g =>
        refine ⟨fun g' h => ?_, fun a' l h => (by cases h)⟩
        cases h
        obtain ⟨u5, d1, d2, d3, d4, d5⟩ := x1 g e2
        obtain ⟨u6, y1, y2, y3, y4, y5, y6⟩ := t_emit_f (v := 59) (zoT_G0 d2 H.1) d4 d5
        refine ⟨u6, ?_, zoT_t d2 y2, y4.trans d3, y5, y6⟩
        unfold fX9_line
        rw [vq_18 b1, vq_18 p63, zjn_ok, if_neg (by decide), vq_18 f1, vq_18 d1]
        exact vq_18 y1
      | inr q =>
        obtain ⟨a'', ds⟩ := q
        obtain ⟨t3, t4, -⟩ := (hg (a' + 1) (by omega)).2 a'' ds e2
        obtain ⟨u5, d1, d2, d3, d4, d5⟩ := x2 a'' ds e2
        obtain ⟨u6, y1, y2, y3, y4, y5⟩ := t_emit (v := 59) (zoT_G0 d2 H.1) d5 (by rw [List.length_append, List.length_append, List.length_append]; simp; omega) (by decide) (by decide)
        refine ⟨fun g' h => (by cases h), fun x l h => ?_⟩
        cases h
        refine ⟨u6, ?_, zoT_t d2 y2, y3.trans d3, y4.trans d4, ?_⟩
        · unfold fX9_line
          rw [vq_18 b1, vq_18 p63, zjn_ok, if_neg (by decide), vq_18 f1, vq_18 d1]
          exact vq_18 y1
        · rw [List.append_assoc, List.append_assoc, List.append_assoc, List.singleton_append] at y5
          exact y5
    · rw [if_neg c] at p63 ⊢
      obtain ⟨u4, f1, f2, f3, f4, f5⟩ := t_emit (v := 59) (zoT_G0 b2 H.1) b5 (by rw [List.length_append]; omega) (by decide) (by decide)
      refine ⟨fun g' h => (by cases h), fun x l h => ?_⟩
      cases h
      refine ⟨u4, ?_, zoT_t b2 f2, f3.trans b3, f4.trans b4, ?_⟩
      · unfold fX9_line
        rw [vq_18 b1, vq_18 p63, zjn_ok, if_pos rfl]
        exact vq_18 f1
      · rw [List.append_assoc] at f5
        exact f5
