/-! ===== the class reads a text: sums, products, operands ===== -/
set_option maxHeartbeats 400000 in
theorem t_loopB {μ : zMem} {T : Nat → Int} {n : Nat} {sub : Nat → zRp} {S : zMem → zRs} {x y z : Int} {sg : Int → Bool} (H : zTx μ T n) (hgd : zgd n sub) (hS : zCI μ n sub S) (hok : zsgok sg) (hx : 0 ≤ x) (hy : 0 ≤ y) (hz : 0 ≤ z) (hb : x < 1000 ∧ y < 1000 ∧ z < 1000) (hsg : ∀ g, sg g = true ↔ g = x ∨ g = y ∨ g = z) :
    (∀ (u : zMem) (a : Nat) (C : List Int), zoT μ u → u 18 4 = a → u 18 5 = -1 → zcd u C → a ≤ n → C.length ≤ a →
      (∀ g, zlL sub sg (zgn T n) 120 a = .inl g → zCl μ (fun u1 => zvc 9 18 (fX9_passesOneOf 18 x y z u1) (fun v2 u3 => zlp (fun _ _ _ => none) (fun k7 (v4 : Int) (v5 : Int) (u6 : zMem) => if v5 ≥ 120 then (some (0, u6)) else (if v4 < 0 then (some (0, u6)) else (zvc 9 18 (S u6) (fun _ u8 => zvc 9 18 (fX9_emit 18 v4 u8) (fun _ u9 => zvc 9 18 (fX9_passesOneOf 18 x y z u9) (fun v10 u11 => k7 v10 (zw32 (v5 + 1)) u11)))))) 1000000 v2 0 u3)) g u) ∧
      ∀ a' cs, zlL sub sg (zgn T n) 120 a = .inr (a', cs) → zCr μ (fun u1 => zvc 9 18 (fX9_passesOneOf 18 x y z u1) (fun v2 u3 => zlp (fun _ _ _ => none) (fun k7 (v4 : Int) (v5 : Int) (u6 : zMem) => if v5 ≥ 120 then (some (0, u6)) else (if v4 < 0 then (some (0, u6)) else (zvc 9 18 (S u6) (fun _ u8 => zvc 9 18 (fX9_emit 18 v4 u8) (fun _ u9 => zvc 9 18 (fX9_passesOneOf 18 x y z u9) (fun v10 u11 => k7 v10 (zw32 (v5 + 1)) u11)))))) 1000000 v2 0 u3)) a' (C ++ cs) u) ∧
    ∀ u : zMem, zoT μ u → 0 ≤ u 18 5 → zvc 9 18 (fX9_passesOneOf 18 x y z u) (fun v2 u3 => zlp (fun _ _ _ => none) (fun k7 (v4 : Int) (v5 : Int) (u6 : zMem) => if v5 ≥ 120 then (some (0, u6)) else (if v4 < 0 then (some (0, u6)) else (zvc 9 18 (S u6) (fun _ u8 => zvc 9 18 (fX9_emit 18 v4 u8) (fun _ u9 => zvc 9 18 (fX9_passesOneOf 18 x y z u9) (fun v10 u11 => k7 v10 (zw32 (v5 + 1)) u11)))))) 1000000 v2 0 u3) = some (0, u) := by
  have h120 := H.2.2.1
  have key := zlp_meas (bot := fun (_ : Int) (_ : Int) (_ : zMem) => (none : zRs)) (F := fun k7 (v4 : Int) (v5 : Int) (u6 : zMem) => if v5 ≥ 120 then (some (0, u6)) else (if v4 < 0 then (some (0, u6)) else (zvc 9 18 (S u6) (fun _ u8 => zvc 9 18 (fX9_emit 18 v4 u8) (fun _ u9 => zvc 9 18 (fX9_passesOneOf 18 x y z u9) (fun v10 u11 => k7 v10 (zw32 (v5 + 1)) u11))))))
    (fun m (f : Int → Int → zMem → zRs) => ∀ (k : Nat) (v : Int), 0 ≤ v → v + (k : Int) = 120 → k < m →
      (∀ (u : zMem) (a : Nat) (C : List Int) (v4 : Int), zoT μ u → (sg (zgn T n a) = true → v4 = zgn T n a ∧ u 18 4 = ((a + 1 : Nat) : Int)) → (¬ sg (zgn T n a) = true → v4 = -1 ∧ u 18 4 = a) → u 18 5 = -1 → zcd u C → a ≤ n → 120 ≤ a + k → C.length ≤ a → (∀ g, zlL sub sg (zgn T n) k a = .inl g → zCl μ (f v4 v) g u) ∧ ∀ a' cs, zlL sub sg (zgn T n) k a = .inr (a', cs) → zCr μ (f v4 v) a' (C ++ cs) u) ∧
      ∀ u : zMem, zoT μ u → f (-1) v u = some (0, u))
    (fun k v _ _ h => absurd h (Nat.not_lt_zero _)) (fun m f ih k v hv0 hv hk => ?_) 1000000 120 0 (Int.le_refl _) (by decide) (by omega)
  · refine ⟨fun u a C hu ha hf hC ha2 hCl => ?_, fun u hu hf => ?_⟩
    · have hp := t_one hx hy hz hsg H hu ha ha2 hf
      by_cases c : sg (zgn T n a) = true
      · rw [if_pos c] at hp
        obtain ⟨r1, r2⟩ := key.1 (zupd u 18 4 ((a + 1 : Nat) : Int)) a C (zgn T n a) (zoT_t hu zoT_4) (fun _ => ⟨rfl, zu_eq⟩) (fun q => absurd c q) ((zu_j (by decide)).trans hf) (zcd_4 hC) ha2 (by omega) hCl
        refine ⟨fun g h => ?_, fun a' cs h => ?_⟩
        · obtain ⟨u2, b1, b2⟩ := r1 g h
          exact ⟨u2, (vq_18 hp).trans b1, b2⟩
        · obtain ⟨u2, b1, b2⟩ := r2 a' cs h
          exact ⟨u2, (vq_18 hp).trans b1, b2⟩
      · rw [if_neg c] at hp
        obtain ⟨r1, r2⟩ := key.1 u a C (-1) hu (fun q => absurd q c) (fun _ => ⟨rfl, ha⟩) hf hC ha2 (by omega) hCl
        refine ⟨fun g h => ?_, fun a' cs h => ?_⟩
        · obtain ⟨u2, b1, b2⟩ := r1 g h
          exact ⟨u2, (vq_18 hp).trans b1, b2⟩
        · obtain ⟨u2, b1, b2⟩ := r2 a' cs h
          exact ⟨u2, (vq_18 hp).trans b1, b2⟩
    · exact (vq_18 (t_one_f hf)).trans (key.2 u hu)
  · cases k with
    | zero =>
      have hge : v ≥ 120 := by omega
      refine ⟨fun u a C v4 hu c1 c0 hf hC ha2 hak hCl => ⟨fun g h => (by cases h), fun a' cs h => ?_⟩, fun u hu => if_pos hge⟩
      cases h
      rw [List.append_nil]
      have hno : ¬ sg (zgn T n a) = true := fun q => by
        have := zgn_lt (hok _ q).1
        omega
      exact ⟨u, if_pos hge, hu, (c0 hno).2, hf, hC⟩
    | succ k =>
      have hlt : ¬ v ≥ 120 := by omega
      have hup : zw32 (v + 1) = v + 1 := zw32_id (by omega) (by omega)
      obtain ⟨ih1, ih2⟩ := ih k (v + 1) (by omega) (by omega) (by omega)
      refine ⟨fun u a C v4 hu c1 c0 hf hC ha2 hak hCl => ?_, fun u hu => ?_⟩
      · unfold zlL
        by_cases c : sg (zgn T n a) = true
        · obtain ⟨hv4, ha⟩ := c1 c
          obtain ⟨g0, -⟩ := hok _ c
          have haN := zgn_lt g0
          have hbd : zgn T n a < 1000 := by have := (hsg _).1 c; omega
          have hn0 : ¬ v4 < 0 := by omega
          rw [if_pos c]
          obtain ⟨s1, s2⟩ := hS.1 u (a + 1) C hu ha hf hC (by omega) (by omega)
          cases e : sub (a + 1) with
          | inl g =>
            rw [zpB_l]
            refine ⟨fun g' h => ?_, fun a' cs h => (by cases h)⟩
            cases h
            obtain ⟨u2, b1, b2, b3, b4, b5⟩ := s1 g e
            obtain ⟨u3, d1, d2, d3, d4, d5, d6⟩ := t_emit_f (v := v4) (zoT_G0 b2 H.1) b4 b5
            have hf3 : 0 ≤ u3 18 5 := by omega
            refine ⟨u3, ?_, zoT_t b2 d2, d4.trans b3, d5, d6⟩
            show (if v ≥ 120 then _ else _) = _
            rw [if_neg hlt, if_neg hn0, vq_18 b1, vq_18 d1, vq_18 (t_one_f hf3), hup]
            exact ih2 u3 (zoT_t b2 d2)
          | inr q =>
            obtain ⟨a', cs⟩ := q
            obtain ⟨t1, t2, -⟩ := (hgd (a + 1) (by omega)).2 a' cs e
            obtain ⟨u2, b1, b2, b3, b4, b5⟩ := s2 a' cs e
            obtain ⟨u3, d1, d2, d3, d4, d5⟩ := t_emit (v := v4) (zoT_G0 b2 H.1) b5 (by rw [List.length_append]; omega) (by omega) (by omega)
            have hu3 := zoT_t b2 d2
            have hp := t_one hx hy hz hsg H hu3 (d3.trans b3) t2 (d4.trans b4)
            have fin : (∀ g, zlL sub sg (zgn T n) k a' = .inl g → ∃ u', zvc 9 18 (fX9_passesOneOf 18 x y z u3) (fun v10 u11 => f v10 (zw32 (v + 1)) u11) = some (0, u') ∧ zoT μ u' ∧ u' 18 5 = g ∧ 0 ≤ u' 18 3 ∧ u' 18 3 ≤ 121) ∧
                ∀ b es, zlL sub sg (zgn T n) k a' = .inr (b, es) → ∃ u', zvc 9 18 (fX9_passesOneOf 18 x y z u3) (fun v10 u11 => f v10 (zw32 (v + 1)) u11) = some (0, u') ∧ zoT μ u' ∧ u' 18 4 = b ∧ u' 18 5 = -1 ∧ zcd u' (((C ++ cs) ++ [10000 + v4]) ++ es) := by
              have hlen : ((C ++ cs) ++ [10000 + v4]).length ≤ a' := by rw [List.length_append, List.length_append]; simp; omega
              by_cases c' : sg (zgn T n a') = true
              · rw [if_pos c'] at hp
                obtain ⟨r1, r2⟩ := ih1 (zupd u3 18 4 ((a' + 1 : Nat) : Int)) a' _ (zgn T n a') (zoT_t hu3 zoT_4) (fun _ => ⟨rfl, zu_eq⟩) (fun q => absurd c' q) ((zu_j (by decide)).trans (d4.trans b4)) (zcd_4 d5) t2 (by omega) hlen
                refine ⟨fun g h => ?_, fun b es h => ?_⟩
                · obtain ⟨u4, q1, q2⟩ := r1 g h
                  refine ⟨u4, ?_, q2⟩
                  rw [vq_18 hp, hup]
                  exact q1
                · obtain ⟨u4, q1, q2⟩ := r2 b es h
                  refine ⟨u4, ?_, q2⟩
                  rw [vq_18 hp, hup]
                  exact q1
              · rw [if_neg c'] at hp
                obtain ⟨r1, r2⟩ := ih1 u3 a' _ (-1) hu3 (fun q => absurd q c') (fun _ => ⟨rfl, d3.trans b3⟩) (d4.trans b4) d5 t2 (by omega) hlen
                refine ⟨fun g h => ?_, fun b es h => ?_⟩
                · obtain ⟨u4, q1, q2⟩ := r1 g h
                  refine ⟨u4, ?_, q2⟩
                  rw [vq_18 hp, hup]
                  exact q1
                · obtain ⟨u4, q1, q2⟩ := r2 b es h
                  refine ⟨u4, ?_, q2⟩
                  rw [vq_18 hp, hup]
                  exact q1
            have go : ∀ w, zvc 9 18 (fX9_passesOneOf 18 x y z u3) (fun v10 u11 => f v10 (zw32 (v + 1)) u11) = w → (if v ≥ 120 then (some (0, u)) else (if v4 < 0 then (some (0, u)) else (zvc 9 18 (S u) (fun _ u8 => zvc 9 18 (fX9_emit 18 v4 u8) (fun _ u9 => zvc 9 18 (fX9_passesOneOf 18 x y z u9) (fun v10 u11 => f v10 (zw32 (v + 1)) u11)))))) = w := fun w hw => by
              rw [if_neg hlt, if_neg hn0, vq_18 b1, vq_18 d1, hw]
            rw [zpB_r]
            cases e2 : zlL sub sg (zgn T n) k a' with
            | inl g =>
              refine ⟨fun g' h => ?_, fun a' cs h => (by cases h)⟩
              cases h
              obtain ⟨u4, q1, q2⟩ := fin.1 g e2
              exact ⟨u4, go _ q1, q2⟩
            | inr q =>
              obtain ⟨a'', ds⟩ := q
              refine ⟨fun g' h => (by cases h), fun x xs h => ?_⟩
              rw [zpB_r] at h
              cases h
              obtain ⟨u4, q1, q2⟩ := fin.2 a'' ds e2
              refine ⟨u4, go _ q1, ?_⟩
              rw [List.append_assoc, List.append_assoc, List.singleton_append] at q2
              rw [← hv4]
              exact q2
        · obtain ⟨hv4, ha⟩ := c0 c
          rw [if_neg c]
          have hn0 : v4 < 0 := by omega
          refine ⟨fun g h => (by cases h), fun a' cs h => ?_⟩
          cases h
          rw [List.append_nil]
          refine ⟨u, ?_, hu, ha, hf, hC⟩
          show (if v ≥ 120 then _ else _) = _
          rw [if_neg hlt, if_pos hn0]
      · show (if v ≥ 120 then _ else _) = _
        rw [if_neg hlt, if_pos (by decide)]
set_option maxHeartbeats 400000 in
theorem t_comp {μ : zMem} {T : Nat → Int} {n : Nat} {sub : Nat → zRp} {S : zMem → zRs} (H : zTx μ T n) (hgd : zgd n sub) (hS : zCI μ n sub S) :
    zCI μ n (zcm sub zgC (zgn T n)) (fun u0 => zvc 9 18 (S u0) (fun _ u1 => zvc 9 18 (fX9_passesOneOf 18 60 61 62 u1) (fun v2 u3 => if v2 < 0 then (some (0, u3)) else (zvc 9 18 (S u3) (fun _ u4 => zvc 9 18 (fX9_emit 18 v2 u4) (fun _ u5 => some (0, u5))))))) := by
  have h120 := H.2.2.1
  have hsg : ∀ g, zgC g = true ↔ g = 60 ∨ g = 61 ∨ g = 62 := fun g => decide_eq_true_iff
  refine ⟨fun u a C hu ha hf hC ha2 hCl => ?_, fun u hu hf => ?_⟩
  · obtain ⟨s1, s2⟩ := hS.1 u a C hu ha hf hC ha2 hCl
    unfold zcm
    cases e : sub a with
    | inl g =>
      rw [zpB_l]
      refine ⟨fun g' h => ?_, fun a' cs h => (by cases h)⟩
      cases h
      obtain ⟨u2, b1, b2, b3, b4, b5⟩ := s1 g e
      refine ⟨u2, ?_, b2, b3, b4, b5⟩
      show zvc 9 18 (S u) _ = _
      rw [vq_18 b1, vq_18 (t_one_f (by omega)), if_pos (by decide)]
    | inr q =>
      obtain ⟨a', cs⟩ := q
      obtain ⟨t1, t2, -⟩ := (hgd a ha2).2 a' cs e
      obtain ⟨u2, b1, b2, b3, b4, b5⟩ := s2 a' cs e
      have hp := t_one (by decide) (by decide) (by decide) hsg H b2 b3 t2 b4
      rw [zpB_r]
      by_cases c : zgC (zgn T n a') = true
      · rw [if_pos c] at hp ⊢
        have hc := (hsg _).1 c
        have haN := zgn_lt (T := T) (n := n) (a := a') (by omega)
        have hn0 : ¬ zgn T n a' < 0 := by omega
        obtain ⟨x1, x2⟩ := hS.1 (zupd u2 18 4 ((a' + 1 : Nat) : Int)) (a' + 1) (C ++ cs) (zoT_t b2 zoT_4) zu_eq ((zu_j (by decide)).trans b4) (zcd_4 b5) (by omega) (by rw [List.length_append]; omega)
        cases e2 : sub (a' + 1) with
        | inl g =>
          rw [zpB_l]
          refine ⟨fun g' h => ?_, fun a' cs h => (by cases h)⟩
          cases h
          obtain ⟨u3, d1, d2, d3, d4, d5⟩ := x1 g e2
          obtain ⟨u4, f1, f2, f3, f4, f5, f6⟩ := t_emit_f (v := zgn T n a') (zoT_G0 d2 H.1) d4 d5
          refine ⟨u4, ?_, zoT_t d2 f2, f4.trans d3, f5, f6⟩
          show zvc 9 18 (S u) _ = _
          rw [vq_18 b1, vq_18 hp, if_neg hn0, vq_18 d1, vq_18 f1]
        | inr q =>
          obtain ⟨a'', ds⟩ := q
          obtain ⟨w1, w2, -⟩ := (hgd (a' + 1) (by omega)).2 a'' ds e2
          obtain ⟨u3, d1, d2, d3, d4, d5⟩ := x2 a'' ds e2
          obtain ⟨u4, f1, f2, f3, f4, f5⟩ := t_emit (v := zgn T n a') (zoT_G0 d2 H.1) d5 (by rw [List.length_append, List.length_append]; omega) (by omega) (by omega)
          refine ⟨fun g' h => (by cases h), fun x xs h => ?_⟩
          rw [zpB_r] at h
          cases h
          refine ⟨u4, ?_, zoT_t d2 f2, f3.trans d3, f4.trans d4, ?_⟩
          · show zvc 9 18 (S u) _ = _
            rw [vq_18 b1, vq_18 hp, if_neg hn0, vq_18 d1, vq_18 f1]
          · rw [List.append_assoc, List.append_assoc] at f5
            exact f5
      · rw [if_neg c] at hp ⊢
        refine ⟨fun g' h => (by cases h), fun x xs h => ?_⟩
        cases h
        refine ⟨u2, ?_, b2, b3, b4, b5⟩
        show zvc 9 18 (S u) _ = _
        rw [vq_18 b1, vq_18 hp, if_pos (by decide)]
  · show zvc 9 18 (S u) _ = _
    rw [vq_18 (hS.2 u hu hf), vq_18 (t_one_f hf), if_pos (by decide)]
def zb10 : Nat → Int
  | 0 => 9999
  | 1 => 999
  | 2 => 99
  | 3 => 9
  | _ => 0
set_option maxHeartbeats 400000 in
theorem zb10_S {k : Nat} (h : k + 1 ≤ 4) : zb10 (k + 1) * 10 + 9 = zb10 k ∧ zb10 (k + 1) ≤ 999 := by
  rcases (show k = 0 ∨ k = 1 ∨ k = 2 ∨ k = 3 by omega) with rfl | rfl | rfl | rfl <;> decide
set_option maxHeartbeats 400000 in
theorem t_isDigit {u : zMem} (g : Int) : fX9_isDigit g u = some (if zdig g = true then 1 else 0, u) := by
  unfold fX9_isDigit
  by_cases c : 48 ≤ g ∧ g ≤ 57
  · rw [if_pos (show zdig g = true from decide_eq_true c)]
    simp (disch := omega) only [↓zcall_ok, zcall_ok, ↓zjn_ok, zjn_ok, ↓zbl_0, zbl_0, ↓zbl_1, zbl_1, ↓if_pos, if_pos, ↓if_neg, if_neg, ↓zb_ite, zb_ite, ↓zb_itn, zb_itn, ↓gf_18, gf_18, ↓pf_18, pf_18, ↓vc_18, vc_18, if_true, if_false, not_true_eq_false, not_false_eq_true, zu_eq, zu_a, zu_j, ge_iff_le, gt_iff_lt, ne_eq, Int.cast_ofNat_Int, Int.add_zero, Int.zero_add, Int.reduceAdd, Int.reduceSub, Int.reduceMul, Int.reduceNeg]
  · rw [if_neg (by rw [zdig, decide_eq_true_iff]; exact c)]
    by_cases c0 : g < 48
    · simp (disch := omega) only [↓zcall_ok, zcall_ok, ↓zjn_ok, zjn_ok, ↓zbl_0, zbl_0, ↓zbl_1, zbl_1, ↓if_pos, if_pos, ↓if_neg, if_neg, ↓zb_ite, zb_ite, ↓zb_itn, zb_itn, ↓gf_18, gf_18, ↓pf_18, pf_18, ↓vc_18, vc_18, if_true, if_false, not_true_eq_false, not_false_eq_true, zu_eq, zu_a, zu_j, ge_iff_le, gt_iff_lt, ne_eq, Int.cast_ofNat_Int, Int.add_zero, Int.zero_add, Int.reduceAdd, Int.reduceSub, Int.reduceMul, Int.reduceNeg]
    · simp (disch := omega) only [↓zcall_ok, zcall_ok, ↓zjn_ok, zjn_ok, ↓zbl_0, zbl_0, ↓zbl_1, zbl_1, ↓if_pos, if_pos, ↓if_neg, if_neg, ↓zb_ite, zb_ite, ↓zb_itn, zb_itn, ↓gf_18, gf_18, ↓pf_18, pf_18, ↓vc_18, vc_18, if_true, if_false, not_true_eq_false, not_false_eq_true, zu_eq, zu_a, zu_j, ge_iff_le, gt_iff_lt, ne_eq, Int.cast_ofNat_Int, Int.add_zero, Int.zero_add, Int.reduceAdd, Int.reduceSub, Int.reduceMul, Int.reduceNeg]
set_option maxHeartbeats 400000 in
theorem t_number {μ : zMem} {T : Nat → Int} {n : Nat} (H : zTx μ T n) {u : zMem} {a : Nat} {C : List Int} (hu : zoT μ u) (ha : u 18 4 = a) (hf : u 18 5 = -1) (hC : zcd u C) (ha2 : a ≤ n) (hCl : C.length < 121) :
    zCr μ (fX9_number 18) (znum (zgn T n) 4 a 0).1 (C ++ [(znum (zgn T n) 4 a 0).2]) u := by
  have h120 := H.2.2.1
  unfold zCr
  rw [eX9_number]
  unfold lX9_number_1
  refine zlp_meas (fun m (f : Int → Int → zMem → zRs) => ∀ (k : Nat) (v1 v2 : Int) (u : zMem) (a : Nat), 0 ≤ v1 → v1 ≤ zb10 k → 0 ≤ v2 → v2 + (k : Int) = 4 → k < m → zoT μ u → u 18 4 = a → u 18 5 = -1 → zcd u C → a ≤ n → ∃ u', f v1 v2 u = some (0, u') ∧ zoT μ u' ∧ u' 18 4 = (znum (zgn T n) k a v1).1 ∧ u' 18 5 = -1 ∧ zcd u' (C ++ [(znum (zgn T n) k a v1).2]))
    (fun k v1 v2 u a _ _ _ _ h => absurd h (Nat.not_lt_zero _)) (fun m f ih k v1 v2 u a b0 b1 b2 b3 b4 hu ha hf hC ha2 => ?_) 1000000 4 0 0 u a (Int.le_refl _) (by decide) (Int.le_refl _) (by decide) (by omega) hu ha hf hC ha2
  obtain ⟨u', d1, d2, d3, d4, d5⟩ := t_code (v := v1) (zoT_G0 hu H.1) hC hCl
  have fin : zvc 9 18 (fX9_code 18 v1 u) (fun _ u7 => some (0, u7)) = some (0, u') := vq_18 d1
  cases k with
  | zero =>
    refine ⟨u', ?_, zoT_t hu d2, d3.trans ha, d4.trans hf, d5⟩
    show (if v2 ≥ 4 then _ else _) = _
    rw [if_pos (by omega)]
    exact fin
  | succ k =>
    have hs := t_sign H hu ha hf
    have hdg := t_isDigit (u := u) (zgn T n a)
    have hlt : ¬ v2 ≥ 4 := by omega
    unfold znum
    by_cases c : zdig (zgn T n a) = true
    · rw [if_pos c] at hdg ⊢
      have hc : 48 ≤ zgn T n a ∧ zgn T n a ≤ 57 := of_decide_eq_true c
      have haN := zgn_lt (T := T) (n := n) (a := a) (by omega)
      obtain ⟨z1, z2⟩ := zb10_S (k := k) (by omega)
      obtain ⟨u2, q1, q2⟩ := ih k (v1 * 10 + zgn T n a - 48) (v2 + 1) (zupd u 18 4 ((a + 1 : Nat) : Int)) (a + 1) (by omega) (by omega) (by omega) (by omega) (by omega) (zoT_t hu zoT_4) zu_eq ((zu_j (by decide)).trans hf) (zcd_4 hC) (by omega)
      refine ⟨u2, ?_, q2⟩
      have hw1 : zw32 (zw32 (zw32 (v1 * 10) + zgn T n a) - 48) = v1 * 10 + zgn T n a - 48 := by
        rw [zw32_id (x := v1 * 10) (by omega) (by omega), zw32_id (x := v1 * 10 + zgn T n a) (by omega) (by omega), zw32_id (by omega) (by omega)]
      have hw2 : zw32 (v2 + 1) = v2 + 1 := zw32_id (by omega) (by omega)
      have hw3 : zw32 ((a : Int) + 1) = ((a + 1 : Nat) : Int) := zupn (by omega)
      show (if v2 ≥ 4 then _ else _) = _
      rw [if_neg hlt, vq_18 hs, zcall_of hdg, if_neg (by decide), vq_18 hs, gf_18, show ((4 : Nat) : Int) = 4 from rfl, ha, hw3, pf_18, show ((4 : Nat) : Int) = 4 from rfl, hw1, hw2]
      exact q1
    · rw [if_neg c] at hdg ⊢
      refine ⟨u', ?_, zoT_t hu d2, d3.trans ha, d4.trans hf, d5⟩
      show (if v2 ≥ 4 then _ else _) = _
      rw [if_neg hlt, vq_18 hs, zcall_of hdg, if_pos rfl]
      exact fin
set_option maxHeartbeats 400000 in
theorem t_nameOf {u : zMem} (g : Int) : fX9_nameOf g u = some (znk g, u) := by
  unfold fX9_nameOf znk
  by_cases c1 : g = 105
  · simp (disch := omega) only [↓zcall_ok, zcall_ok, ↓zjn_ok, zjn_ok, ↓zbl_0, zbl_0, ↓zbl_1, zbl_1, ↓if_pos, if_pos, ↓if_neg, if_neg, ↓zb_ite, zb_ite, ↓zb_itn, zb_itn, ↓gf_18, gf_18, ↓pf_18, pf_18, ↓vc_18, vc_18, if_true, if_false, not_true_eq_false, not_false_eq_true, zu_eq, zu_a, zu_j, ge_iff_le, gt_iff_lt, ne_eq, Int.cast_ofNat_Int, Int.add_zero, Int.zero_add, Int.reduceAdd, Int.reduceSub, Int.reduceMul, Int.reduceNeg]
  by_cases c2 : g = 107
  · simp (disch := omega) only [↓zcall_ok, zcall_ok, ↓zjn_ok, zjn_ok, ↓zbl_0, zbl_0, ↓zbl_1, zbl_1, ↓if_pos, if_pos, ↓if_neg, if_neg, ↓zb_ite, zb_ite, ↓zb_itn, zb_itn, ↓gf_18, gf_18, ↓pf_18, pf_18, ↓vc_18, vc_18, if_true, if_false, not_true_eq_false, not_false_eq_true, zu_eq, zu_a, zu_j, ge_iff_le, gt_iff_lt, ne_eq, Int.cast_ofNat_Int, Int.add_zero, Int.zero_add, Int.reduceAdd, Int.reduceSub, Int.reduceMul, Int.reduceNeg]
  by_cases c3 : g = 108
  · simp (disch := omega) only [↓zcall_ok, zcall_ok, ↓zjn_ok, zjn_ok, ↓zbl_0, zbl_0, ↓zbl_1, zbl_1, ↓if_pos, if_pos, ↓if_neg, if_neg, ↓zb_ite, zb_ite, ↓zb_itn, zb_itn, ↓gf_18, gf_18, ↓pf_18, pf_18, ↓vc_18, vc_18, if_true, if_false, not_true_eq_false, not_false_eq_true, zu_eq, zu_a, zu_j, ge_iff_le, gt_iff_lt, ne_eq, Int.cast_ofNat_Int, Int.add_zero, Int.zero_add, Int.reduceAdd, Int.reduceSub, Int.reduceMul, Int.reduceNeg]
  by_cases c4 : g = 109
  · simp (disch := omega) only [↓zcall_ok, zcall_ok, ↓zjn_ok, zjn_ok, ↓zbl_0, zbl_0, ↓zbl_1, zbl_1, ↓if_pos, if_pos, ↓if_neg, if_neg, ↓zb_ite, zb_ite, ↓zb_itn, zb_itn, ↓gf_18, gf_18, ↓pf_18, pf_18, ↓vc_18, vc_18, if_true, if_false, not_true_eq_false, not_false_eq_true, zu_eq, zu_a, zu_j, ge_iff_le, gt_iff_lt, ne_eq, Int.cast_ofNat_Int, Int.add_zero, Int.zero_add, Int.reduceAdd, Int.reduceSub, Int.reduceMul, Int.reduceNeg]
  by_cases c5 : g = 110
  · simp (disch := omega) only [↓zcall_ok, zcall_ok, ↓zjn_ok, zjn_ok, ↓zbl_0, zbl_0, ↓zbl_1, zbl_1, ↓if_pos, if_pos, ↓if_neg, if_neg, ↓zb_ite, zb_ite, ↓zb_itn, zb_itn, ↓gf_18, gf_18, ↓pf_18, pf_18, ↓vc_18, vc_18, if_true, if_false, not_true_eq_false, not_false_eq_true, zu_eq, zu_a, zu_j, ge_iff_le, gt_iff_lt, ne_eq, Int.cast_ofNat_Int, Int.add_zero, Int.zero_add, Int.reduceAdd, Int.reduceSub, Int.reduceMul, Int.reduceNeg]
  by_cases c6 : g = 111
  · simp (disch := omega) only [↓zcall_ok, zcall_ok, ↓zjn_ok, zjn_ok, ↓zbl_0, zbl_0, ↓zbl_1, zbl_1, ↓if_pos, if_pos, ↓if_neg, if_neg, ↓zb_ite, zb_ite, ↓zb_itn, zb_itn, ↓gf_18, gf_18, ↓pf_18, pf_18, ↓vc_18, vc_18, if_true, if_false, not_true_eq_false, not_false_eq_true, zu_eq, zu_a, zu_j, ge_iff_le, gt_iff_lt, ne_eq, Int.cast_ofNat_Int, Int.add_zero, Int.zero_add, Int.reduceAdd, Int.reduceSub, Int.reduceMul, Int.reduceNeg]
  by_cases c7 : g = 115
  · simp (disch := omega) only [↓zcall_ok, zcall_ok, ↓zjn_ok, zjn_ok, ↓zbl_0, zbl_0, ↓zbl_1, zbl_1, ↓if_pos, if_pos, ↓if_neg, if_neg, ↓zb_ite, zb_ite, ↓zb_itn, zb_itn, ↓gf_18, gf_18, ↓pf_18, pf_18, ↓vc_18, vc_18, if_true, if_false, not_true_eq_false, not_false_eq_true, zu_eq, zu_a, zu_j, ge_iff_le, gt_iff_lt, ne_eq, Int.cast_ofNat_Int, Int.add_zero, Int.zero_add, Int.reduceAdd, Int.reduceSub, Int.reduceMul, Int.reduceNeg]
  by_cases c8 : g = 119
  · simp (disch := omega) only [↓zcall_ok, zcall_ok, ↓zjn_ok, zjn_ok, ↓zbl_0, zbl_0, ↓zbl_1, zbl_1, ↓if_pos, if_pos, ↓if_neg, if_neg, ↓zb_ite, zb_ite, ↓zb_itn, zb_itn, ↓gf_18, gf_18, ↓pf_18, pf_18, ↓vc_18, vc_18, if_true, if_false, not_true_eq_false, not_false_eq_true, zu_eq, zu_a, zu_j, ge_iff_le, gt_iff_lt, ne_eq, Int.cast_ofNat_Int, Int.add_zero, Int.zero_add, Int.reduceAdd, Int.reduceSub, Int.reduceMul, Int.reduceNeg]
  · rw [if_neg c1, if_neg c2, if_neg c3, if_neg c4, if_neg c5, if_neg c6, if_neg c7, if_neg c8, if_neg c1, if_neg c2, if_neg c3, if_neg c4, if_neg c5, if_neg c6, if_neg c7, if_neg c8]
    repeat (split; rfl)
    rfl
