/-! ===== the reference reads a text: sums, products, operands ===== -/
def zLPG (B : (Int → zMem → zRs) → Int → zMem → zRs) (v1 : Int) (u2 : zMem) : zRs := zlp (fun _ _ => none) B 1000000 v1 u2
set_option maxHeartbeats 400000 in
theorem v_loopG {μ : zMem} {T : Nat → Int} {n h : Nat} {nm : Int → Int} {o : Int} {sub : Nat → zRp} {S : zMem → zRs} {sg : Int → Bool} {B : (Int → zMem → zRs) → Int → zMem → zRs} (H : zTr μ T n) (hgd : zgd n sub) (hS : zRI μ n nm h o sub S) (hop : ∀ g, sg g = true → zop g)
    (hB1 : ∀ (f : Int → zMem → zRs) (u : zMem) (a : Nat) (v : Int), zoV μ u → u 129 15 = a → u 129 17 = -1 → a ≤ n → B f v u = if sg (zgn T n a) = true then zvc 11 129 (S (zupd u 129 15 ((a + 1 : Nat) : Int))) (fun x u' => f (zjt (zgn T n a) v x) u') else some (v, u)) (hB2 : ∀ (f : Int → zMem → zRs) (u : zMem) (v : Int), 0 ≤ u 129 17 → B f v u = some (v, u)) :
    zRL μ n nm h o (zlL sub sg (zgn T n) 120) (zLPG B) := by
  have h120 := H.2.2.1
  have key := zlp_meas (bot := fun (_ : Int) (_ : zMem) => (none : zRs)) (F := B)
    (fun m (f : Int → zMem → zRs) => ∀ k : Nat, k < m →
      (∀ (u : zMem) (a : Nat) (v : Int), zoV μ u → u 129 15 = a → u 129 17 = -1 → u 129 18 = o → a ≤ n → 120 ≤ a + k → (∀ g, zlL sub sg (zgn T n) k a = .inl g → zRl μ n (f v) g u) ∧ ∀ a' ds, zlL sub sg (zgn T n) k a = .inr (a', ds) → zRr μ (zvL nm h ds v) (f v) a' o u) ∧
      ∀ (u : zMem) (v : Int), zoV μ u → 0 ≤ u 129 17 → f v u = some (v, u))
    (fun k h => absurd h (Nat.not_lt_zero _)) (fun m f ih k hk => ?_) 1000000 120 (by omega)
  · refine ⟨fun u a v hu ha hf ho ha2 => ?_, fun u v hu hf _ _ => (show zLPG B v u = _ from key.2 u v hu hf)⟩
    obtain ⟨r1, r2⟩ := key.1 u a v hu ha hf ho ha2 (by omega)
    refine ⟨fun g h => ?_, fun a' ds h => ?_⟩
    · obtain ⟨v', u', q1, q2⟩ := r1 g h
      exact ⟨v', u', (show zLPG B v u = _ from q1), q2⟩
    · obtain ⟨v', u', q1, q2⟩ := r2 a' ds h
      exact ⟨v', u', (show zLPG B v u = _ from q1), q2⟩
  · refine ⟨fun u a v hu ha hf ho ha2 hak => ?_, fun u v hu hf => hB2 f u v hf⟩
    have hp := hB1 f u a v hu ha hf ha2
    cases k with
    | zero =>
      refine ⟨fun g h => (by cases h), fun a' ds h => ?_⟩
      cases h
      have c : ¬ sg (zgn T n a) = true := fun q => by
        have := zgn_lt (hop _ q).1
        omega
      rw [if_neg c] at hp
      exact ⟨v, u, hp, hu, ha, hf, ho, zvL_0⟩
    | succ k =>
      unfold zlL
      by_cases c : sg (zgn T n a) = true
      · have hg := hop _ c
        have haN := zgn_lt hg.1
        rw [if_pos c] at hp ⊢
        obtain ⟨ih1, ih2⟩ := ih k (by omega)
        obtain ⟨s1, s2⟩ := hS.1 (zupd u 129 15 ((a + 1 : Nat) : Int)) (a + 1) (zoV_t hu zoV_15) zu_eq ((zu_j (by decide)).trans hf) ((zu_j (by decide)).trans ho) (by omega)
        cases e : sub (a + 1) with
        | inl g =>
          rw [zpB_l]
          refine ⟨fun g' h => ?_, fun a' cs h => (by cases h)⟩
          cases h
          obtain ⟨x, u2, b1, b2, b3, b4, b5⟩ := s1 g e
          rw [vq_129 b1] at hp
          exact ⟨_, u2, hp.trans (ih2 u2 _ b2 (by omega)), b2, b3, b4, b5⟩
        | inr q =>
          obtain ⟨a', cs⟩ := q
          obtain ⟨t1, t2, -⟩ := (hgd (a + 1) (by omega)).2 a' cs e
          obtain ⟨x, u2, b1, b2, b3, b4, b5, b6⟩ := s2 a' cs e
          rw [vq_129 b1] at hp
          obtain ⟨r1, r2⟩ := ih1 u2 a' (zjt (zgn T n a) v x) b2 b3 b4 b5 t2 (by omega)
          rw [zpB_r]
          cases e2 : zlL sub sg (zgn T n) k a' with
          | inl g =>
            refine ⟨fun g' h => ?_, fun a' cs h => (by cases h)⟩
            cases h
            obtain ⟨v', u4, q1, q2⟩ := r1 g e2
            exact ⟨v', u4, hp.trans q1, q2⟩
          | inr q =>
            obtain ⟨a'', ds⟩ := q
            refine ⟨fun g' h => (by cases h), fun y ys h => ?_⟩
            rw [zpB_r] at h
            cases h
            obtain ⟨v', u4, q1, q2, q3, q4, q5, q6⟩ := r2 a'' ds e2
            exact ⟨v', u4, hp.trans q1, q2, q3, q4, q5, zvL_s hg b6 q6⟩
      · rw [if_neg c] at hp ⊢
        refine ⟨fun g h => (by cases h), fun a' ds h => ?_⟩
        cases h
        exact ⟨v, u, hp, hu, ha, hf, ho, zvL_0⟩
set_option maxHeartbeats 400000 in
theorem v_loopG2 {μ : zMem} {T : Nat → Int} {n h : Nat} {nm : Int → Int} {o : Int} {sub : Nat → zRp} {S : zMem → zRs} {sg : Int → Bool} {B : (Int → Int → zMem → zRs) → Int → Int → zMem → zRs} (H : zTr μ T n) (hgd : zgd n sub) (hS : zRI μ n nm h o sub S) (hop : ∀ g, sg g = true → zop g)
    (hB1 : ∀ (f : Int → Int → zMem → zRs) (u : zMem) (a : Nat) (v : Int), zoV μ u → u 129 15 = a → u 129 17 = -1 → a ≤ n → B f v (zgz T n a) u = if sg (zgn T n a) = true then zvc 11 129 (S (zupd u 129 15 ((a + 1 : Nat) : Int))) (fun x u' => zvc 11 129 (fX11_byteAt 129 u') (fun c u'' => f (zjt (zgn T n a) v x) c u'')) else some (v, u)) (hB2 : ∀ (f : Int → Int → zMem → zRs) (u : zMem) (v c : Int), 0 ≤ u 129 17 → B f v c u = some (v, u)) :
    zRL μ n nm h o (zlL sub sg (zgn T n) 120) (fun v1 u2 => zvc 11 129 (fX11_byteAt 129 u2) (fun v3 u4 => zlp (fun _ _ _ => none) B 1000000 v1 v3 u4)) := by
  have h120 := H.2.2.1
  have key := zlp_meas (bot := fun (_ : Int) (_ : Int) (_ : zMem) => (none : zRs)) (F := B)
    (fun m (f : Int → Int → zMem → zRs) => ∀ k : Nat, k < m →
      (∀ (u : zMem) (a : Nat) (v : Int), zoV μ u → u 129 15 = a → u 129 17 = -1 → u 129 18 = o → a ≤ n → 120 ≤ a + k → (∀ g, zlL sub sg (zgn T n) k a = .inl g → zRl μ n (f v (zgz T n a)) g u) ∧ ∀ a' ds, zlL sub sg (zgn T n) k a = .inr (a', ds) → zRr μ (zvL nm h ds v) (f v (zgz T n a)) a' o u) ∧
      ∀ (u : zMem) (v c : Int), zoV μ u → 0 ≤ u 129 17 → f v c u = some (v, u))
    (fun k h => absurd h (Nat.not_lt_zero _)) (fun m f ih k hk => ?_) 1000000 120 (by omega)
  · refine ⟨fun u a v hu ha hf ho ha2 => ?_, fun u v hu hf h0 h1 => ?_⟩
    · have hb := v_byte H hu ha
      obtain ⟨r1, r2⟩ := key.1 u a v hu ha hf ho ha2 (by omega)
      refine ⟨fun g h => ?_, fun a' ds h => ?_⟩
      · obtain ⟨v', u', q1, q2⟩ := r1 g h
        exact ⟨v', u', (vq_129 hb).trans q1, q2⟩
      · obtain ⟨v', u', q1, q2⟩ := r2 a' ds h
        exact ⟨v', u', (vq_129 hb).trans q1, q2⟩
    · obtain ⟨b, hb⟩ := v_byte_f H hu h0
      exact (vq_129 hb).trans (key.2 u v b hu hf)
  · refine ⟨fun u a v hu ha hf ho ha2 hak => ?_, fun u v c hu hf => hB2 f u v c hf⟩
    have hp := hB1 f u a v hu ha hf ha2
    cases k with
    | zero =>
      refine ⟨fun g h => (by cases h), fun a' ds h => ?_⟩
      cases h
      have c : ¬ sg (zgn T n a) = true := fun q => by
        have := zgn_lt (hop _ q).1
        omega
      rw [if_neg c] at hp
      exact ⟨v, u, hp, hu, ha, hf, ho, zvL_0⟩
    | succ k =>
      unfold zlL
      by_cases c : sg (zgn T n a) = true
      · have hg := hop _ c
        have haN := zgn_lt hg.1
        rw [if_pos c] at hp ⊢
        obtain ⟨ih1, ih2⟩ := ih k (by omega)
        obtain ⟨s1, s2⟩ := hS.1 (zupd u 129 15 ((a + 1 : Nat) : Int)) (a + 1) (zoV_t hu zoV_15) zu_eq ((zu_j (by decide)).trans hf) ((zu_j (by decide)).trans ho) (by omega)
        cases e : sub (a + 1) with
        | inl g =>
          rw [zpB_l]
          refine ⟨fun g' h => ?_, fun a' cs h => (by cases h)⟩
          cases h
          obtain ⟨x, u2, b1, b2, b3, b4, b5⟩ := s1 g e
          obtain ⟨b, hb⟩ := v_byte_f H b2 b4
          rw [vq_129 b1, vq_129 hb] at hp
          exact ⟨_, u2, hp.trans (ih2 u2 _ b b2 (by omega)), b2, b3, b4, b5⟩
        | inr q =>
          obtain ⟨a', cs⟩ := q
          obtain ⟨t1, t2, -⟩ := (hgd (a + 1) (by omega)).2 a' cs e
          obtain ⟨x, u2, b1, b2, b3, b4, b5, b6⟩ := s2 a' cs e
          have hb := v_byte H b2 b3
          rw [vq_129 b1, vq_129 hb] at hp
          obtain ⟨r1, r2⟩ := ih1 u2 a' (zjt (zgn T n a) v x) b2 b3 b4 b5 t2 (by omega)
          rw [zpB_r]
          cases e2 : zlL sub sg (zgn T n) k a' with
          | inl g =>
            refine ⟨fun g' h => ?_, fun a' cs h => (by cases h)⟩
            cases h
            obtain ⟨v', u4, q1, q2⟩ := r1 g e2
            exact ⟨v', u4, hp.trans q1, q2⟩
          | inr q =>
            obtain ⟨a'', ds⟩ := q
            refine ⟨fun g' h => (by cases h), fun y ys h => ?_⟩
            rw [zpB_r] at h
            cases h
            obtain ⟨v', u4, q1, q2, q3, q4, q5, q6⟩ := r2 a'' ds e2
            exact ⟨v', u4, hp.trans q1, q2, q3, q4, q5, zvL_s hg b6 q6⟩
      · rw [if_neg c] at hp ⊢
        refine ⟨fun g h => (by cases h), fun a' ds h => ?_⟩
        cases h
        exact ⟨v, u, hp, hu, ha, hf, ho, zvL_0⟩
def zbdA (S : zMem → zRs) (k5 : Int → zMem → zRs) (v3 : Int) (u4 : zMem) : zRs := zgf 11 17 129 u4 (fun v6 => if v6 ≥ 0 then (some (v3, u4)) else (zvc 11 129 (fX11_byteAt 129 u4) (fun v7 u8 => zjn (fun (u9 : zMem) => zvc 11 129 (fX11_byteAt 129 u9) (fun v11 u12 => zjn (fun (v13 : Int) (u14 : zMem) => zgf 11 15 129 u14 (fun v16 => zpf 11 15 129 (zw32 (v16 + 1)) u14 (fun u17 => zvc 11 129 (S u17) (fun v18 u19 => zjn (fun (v20 : Int) (u21 : zMem) => k5 v20 u21) (fun k22 => if v13 = 0 then (k22 (zw32 (v3 - v18)) u19) else (k22 (zw32 (v3 + v18)) u19)))))) (fun k15 => if v11 ≠ 43 then (k15 0 u12) else (k15 1 u12)))) (fun k10 => if v7 = 43 then (k10 u8) else (zvc 11 129 (fX11_byteAt 129 u8) (fun v23 u24 => if v23 ≠ 45 then (some (v3, u24)) else (k10 u24)))))))
def zbdM (S : zMem → zRs) (k8 : Int → Int → zMem → zRs) (v5 : Int) (v6 : Int) (u7 : zMem) : zRs := zgf 11 17 129 u7 (fun v9 => if v9 ≥ 0 then (some (v5, u7)) else (zjn (fun (u10 : zMem) => zgf 11 15 129 u10 (fun v12 => zpf 11 15 129 (zw32 (v12 + 1)) u10 (fun u13 => zvc 11 129 (S u13) (fun v14 u15 => zjn (fun (v16 : Int) (u17 : zMem) => zvc 11 129 (fX11_byteAt 129 u17) (fun v19 u20 => k8 v16 v19 u20)) (fun k18 => if v6 ≠ 42 then (if v14 ≠ 0 then (if v6 ≠ 47 then (znz v14 (k18 (Int.tmod v5 v14) u15)) else (znz v14 (k18 (zw32 (Int.tdiv v5 v14)) u15))) else (k18 0 u15)) else (k18 (zw32 (v5 * v14)) u15)))))) (fun k11 => if v6 = 42 then (k11 u7) else (if v6 = 47 then (k11 u7) else (if v6 ≠ 37 then (some (v5, u7)) else (k11 u7))))))
set_option maxHeartbeats 400000 in
theorem zjt_43 {v x : Int} : zjt 43 v x = zw32 (v + x) := by unfold zjt; simp only [Int.reduceEq, if_false, if_true]
set_option maxHeartbeats 400000 in
theorem zjt_45 {v x : Int} : zjt 45 v x = zw32 (v - x) := by unfold zjt; simp only [Int.reduceEq, if_false, if_true]
set_option maxHeartbeats 400000 in
theorem zjt_42 {v x : Int} : zjt 42 v x = zw32 (v * x) := by unfold zjt; simp only [Int.reduceEq, if_false, if_true]
set_option maxHeartbeats 400000 in
theorem zjt_47 {v x : Int} : zjt 47 v x = if x = 0 then 0 else zw32 (Int.tdiv v x) := by unfold zjt; simp only [Int.reduceEq, if_false, if_true]
set_option maxHeartbeats 400000 in
theorem zjt_37 {v x : Int} : zjt 37 v x = if x = 0 then 0 else Int.tmod v x := by unfold zjt; simp only [Int.reduceEq, if_false, if_true]
set_option maxHeartbeats 400000 in
theorem zjt_38 {v x : Int} : zjt 38 v x = if v ≠ 0 ∧ x ≠ 0 then 1 else 0 := by unfold zjt; simp only [Int.reduceEq, if_false, if_true]
set_option maxHeartbeats 400000 in
theorem zjt_124 {v x : Int} : zjt 124 v x = if v ≠ 0 ∨ x ≠ 0 then 1 else 0 := by unfold zjt; simp only [Int.reduceEq, if_false, if_true]
set_option maxHeartbeats 400000 in
theorem zjt_60 {v x : Int} : zjt 60 v x = if v < x then 1 else 0 := by unfold zjt; simp only [Int.reduceEq, if_false, if_true]
set_option maxHeartbeats 400000 in
theorem zjt_61 {v x : Int} : zjt 61 v x = if v = x then 1 else 0 := by unfold zjt; simp only [Int.reduceEq, if_false, if_true]
set_option maxHeartbeats 400000 in
theorem zjt_62 {v x : Int} : zjt 62 v x = if v > x then 1 else 0 := by unfold zjt; simp only [Int.reduceEq, if_false, if_true]
set_option maxHeartbeats 400000 in
theorem v_bdA {μ : zMem} {T : Nat → Int} {n : Nat} {S : zMem → zRs} (H : zTr μ T n) (f : Int → zMem → zRs) (u : zMem) (a : Nat) (v : Int) (hu : zoV μ u) (ha : u 129 15 = a) (hf : u 129 17 = -1) (ha2 : a ≤ n) : zbdA S f v u = if zgA (zgn T n a) = true then zvc 11 129 (S (zupd u 129 15 ((a + 1 : Nat) : Int))) (fun x u' => f (zjt (zgn T n a) v x) u') else some (v, u) := by
  have e := v_byte H hu ha
  have hz := zgz_is H a
  have h2 := H.2.2.1
  have hd : zgA (zgn T n a) = true ↔ zgn T n a = 43 ∨ zgn T n a = 45 := decide_eq_true_iff
  unfold zbdA
  clear H hu
  generalize zgz T n a = z at *
  generalize zgn T n a = g at *
  by_cases c1 : g = 43
  · rw [if_pos (hd.2 (Or.inl c1))]
    have hz1 : z = 43 := by omega
    subst c1 hz1
    clear hd hz
    simp only [zjt_43]
    simp (disch := omega) only [hf, ↓(vq_129 e), ha, zupn, ↓zcall_ok, zcall_ok, ↓zjn_ok, zjn_ok, ↓zbl_0, zbl_0, ↓zbl_1, zbl_1, ↓if_pos, if_pos, ↓if_neg, if_neg, ↓zb_ite, zb_ite, ↓zb_itn, zb_itn, ↓gf_129, gf_129, ↓pf_129, pf_129, ↓vc_129, vc_129, if_true, if_false, not_true_eq_false, not_false_eq_true, zu_eq, zu_a, zu_j, ge_iff_le, gt_iff_lt, ne_eq, Int.cast_ofNat_Int, Int.add_zero, Int.zero_add, Int.reduceAdd, Int.reduceSub, Int.reduceMul, Int.reduceNeg]
  by_cases c2 : g = 45
  · rw [if_pos (hd.2 (Or.inr c2))]
    have hz1 : z = 45 := by omega
    subst c2 hz1
    clear hd hz
    simp only [zjt_45]
    simp (disch := omega) only [hf, ↓(vq_129 e), ha, zupn, ↓zcall_ok, zcall_ok, ↓zjn_ok, zjn_ok, ↓zbl_0, zbl_0, ↓zbl_1, zbl_1, ↓if_pos, if_pos, ↓if_neg, if_neg, ↓zb_ite, zb_ite, ↓zb_itn, zb_itn, ↓gf_129, gf_129, ↓pf_129, pf_129, ↓vc_129, vc_129, if_true, if_false, not_true_eq_false, not_false_eq_true, zu_eq, zu_a, zu_j, ge_iff_le, gt_iff_lt, ne_eq, Int.cast_ofNat_Int, Int.add_zero, Int.zero_add, Int.reduceAdd, Int.reduceSub, Int.reduceMul, Int.reduceNeg]
  · rw [if_neg (fun q => by rcases hd.1 q with q | q <;> contradiction)]
    have hz1 : ¬ z = 43 := by omega
    have hz2 : ¬ z = 45 := by omega
    clear hd hz
    simp (disch := omega) only [hf, ↓(vq_129 e), ↓zcall_ok, zcall_ok, ↓zjn_ok, zjn_ok, ↓zbl_0, zbl_0, ↓zbl_1, zbl_1, ↓if_pos, if_pos, ↓if_neg, if_neg, ↓zb_ite, zb_ite, ↓zb_itn, zb_itn, ↓gf_129, gf_129, ↓pf_129, pf_129, ↓vc_129, vc_129, if_true, if_false, not_true_eq_false, not_false_eq_true, zu_eq, zu_a, zu_j, ge_iff_le, gt_iff_lt, ne_eq, Int.cast_ofNat_Int, Int.add_zero, Int.zero_add, Int.reduceAdd, Int.reduceSub, Int.reduceMul, Int.reduceNeg]
set_option maxHeartbeats 400000 in
theorem v_bdA_f {S : zMem → zRs} (f : Int → zMem → zRs) (u : zMem) (v : Int) (hf : 0 ≤ u 129 17) : zbdA S f v u = some (v, u) := by
  unfold zbdA
  rw [gf_129, show ((17 : Nat) : Int) = 17 from rfl, if_pos hf]
set_option maxHeartbeats 400000 in
theorem v_bdM {μ : zMem} {T : Nat → Int} {n : Nat} {S : zMem → zRs} (H : zTr μ T n) (f : Int → Int → zMem → zRs) (u : zMem) (a : Nat) (v : Int) (hu : zoV μ u) (ha : u 129 15 = a) (hf : u 129 17 = -1) (ha2 : a ≤ n) : zbdM S f v (zgz T n a) u = if zgM (zgn T n a) = true then zvc 11 129 (S (zupd u 129 15 ((a + 1 : Nat) : Int))) (fun x u' => zvc 11 129 (fX11_byteAt 129 u') (fun c u'' => f (zjt (zgn T n a) v x) c u'')) else some (v, u) := by
  have hz := zgz_is H a
  have h2 := H.2.2.1
  have hd : zgM (zgn T n a) = true ↔ zgn T n a = 42 ∨ zgn T n a = 47 ∨ zgn T n a = 37 := decide_eq_true_iff
  have hnf : ¬ u 129 17 ≥ 0 := by omega
  have hup : zw32 (u 129 15 + 1) = ((a + 1 : Nat) : Int) := by rw [ha]; exact zupn (by omega)
  unfold zbdM
  clear H hu
  generalize zgz T n a = z at *
  generalize zgn T n a = g at *
  rw [gf_129, show ((17 : Nat) : Int) = 17 from rfl, if_neg hnf, zjn_ok]
  by_cases c1 : g = 42
  · rw [if_pos (hd.2 (Or.inl c1))]
    have hz1 : z = 42 := by omega
    subst c1 hz1
    rw [if_pos rfl]
    show zgf 11 15 129 _ _ = _
    rw [gf_129, show ((15 : Nat) : Int) = 15 from rfl, hup, pf_129, show ((15 : Nat) : Int) = 15 from rfl]
    refine congrArg (zvc 11 129 (S (zupd u 129 15 ((a + 1 : Nat) : Int)))) ?_
    funext x u'
    rw [zjn_ok, if_neg (by decide), zjt_42]
  by_cases c2 : g = 47
  · rw [if_pos (hd.2 (Or.inr (Or.inl c2)))]
    have hz1 : z = 47 := by omega
    subst c2 hz1
    rw [if_neg (by decide), if_pos rfl]
    show zgf 11 15 129 _ _ = _
    rw [gf_129, show ((15 : Nat) : Int) = 15 from rfl, hup, pf_129, show ((15 : Nat) : Int) = 15 from rfl]
    congr 1
    funext x u'
    rw [zjn_ok, if_pos (by decide), zjt_47]
    by_cases hx : x = 0
    · rw [if_neg (fun q => q hx), if_pos hx]
    · rw [if_pos hx, if_neg (fun q => q rfl), if_neg hx, znz_ok hx]
  by_cases c3 : g = 37
  · rw [if_pos (hd.2 (Or.inr (Or.inr c3)))]
    have hz1 : z = 37 := by omega
    subst c3 hz1
    rw [if_neg (by decide), if_neg (by decide), if_neg (by decide)]
    show zgf 11 15 129 _ _ = _
    rw [gf_129, show ((15 : Nat) : Int) = 15 from rfl, hup, pf_129, show ((15 : Nat) : Int) = 15 from rfl]
    congr 1
    funext x u'
    rw [zjn_ok, if_pos (by decide), zjt_37]
    by_cases hx : x = 0
    · rw [if_neg (fun q => q hx), if_pos hx]
    · rw [if_pos hx, if_pos (by decide), if_neg hx, znz_ok hx]
  · have hno : ¬ zgM g = true := fun q => by rcases hd.1 q with q | q | q <;> contradiction
    have hz1 : ¬ z = 42 := by omega
    have hz2 : ¬ z = 47 := by omega
    have hz3 : z ≠ 37 := by omega
    rw [if_neg hz1, if_neg hz2, if_pos hz3, if_neg hno]
set_option maxHeartbeats 400000 in
theorem v_bdM_f {S : zMem → zRs} (f : Int → Int → zMem → zRs) (u : zMem) (v c : Int) (hf : 0 ≤ u 129 17) : zbdM S f v c u = some (v, u) := by
  unfold zbdM
  rw [gf_129, show ((17 : Nat) : Int) = 17 from rfl, if_pos hf]
set_option maxHeartbeats 400000 in
theorem v_comp {μ : zMem} {T : Nat → Int} {n h : Nat} {nm : Int → Int} {o : Int} {sub : Nat → zRp} {S : zMem → zRs} (H : zTr μ T n) (hgd : zgd n sub) (hS : zRI μ n nm h o sub S) :
    zRI μ n nm (h + 1) o (zcm sub zgC (zgn T n)) (fun u0 => zvc 11 129 (S u0) (fun v1 u2 => zvc 11 129 (fX11_byteAt 129 u2) (fun v3 u4 => zgf 11 17 129 u4 (fun v5 => if v5 ≥ 0 then (some (v1, u4)) else (zjn (fun (u6 : zMem) => zgf 11 15 129 u6 (fun v8 => zpf 11 15 129 (zw32 (v8 + 1)) u6 (fun u9 => zvc 11 129 (S u9) (fun v10 u11 => zjn (fun (u12 : zMem) => some (0, u12)) (fun k13 => zjn (fun (u14 : zMem) => some (1, u14)) (fun k15 => if v3 ≠ 60 then (if v3 ≠ 61 then (if v1 ≤ v10 then (k13 u11) else (k15 u11)) else (if v1 ≠ v10 then (k13 u11) else (k15 u11))) else (if v1 ≥ v10 then (k13 u11) else (k15 u11)))))))) (fun k7 => if v3 = 60 then (k7 u4) else (if v3 = 61 then (k7 u4) else (if v3 = 62 then (k7 u4) else (some (v1, u4)))))))))) := by
  have h120 := H.2.2.1
  have hsg : ∀ g, zgC g = true ↔ g = 60 ∨ g = 61 ∨ g = 62 := fun g => decide_eq_true_iff
  -- the part behind the first sum
  have tail : ∀ (u2 : zMem) (a' : Nat) (v1 : Int), zoV μ u2 → u2 129 15 = a' → u2 129 17 = -1 → a' ≤ n →
      zvc 11 129 (fX11_byteAt 129 u2) (fun v3 u4 => zgf 11 17 129 u4 (fun v5 => if v5 ≥ 0 then (some (v1, u4)) else (zjn (fun (u6 : zMem) => zgf 11 15 129 u6 (fun v8 => zpf 11 15 129 (zw32 (v8 + 1)) u6 (fun u9 => zvc 11 129 (S u9) (fun v10 u11 => zjn (fun (u12 : zMem) => some (0, u12)) (fun k13 => zjn (fun (u14 : zMem) => some (1, u14)) (fun k15 => if v3 ≠ 60 then (if v3 ≠ 61 then (if v1 ≤ v10 then (k13 u11) else (k15 u11)) else (if v1 ≠ v10 then (k13 u11) else (k15 u11))) else (if v1 ≥ v10 then (k13 u11) else (k15 u11)))))))) (fun k7 => if v3 = 60 then (k7 u4) else (if v3 = 61 then (k7 u4) else (if v3 = 62 then (k7 u4) else (some (v1, u4))))))))
      = if zgC (zgn T n a') = true then zvc 11 129 (S (zupd u2 129 15 ((a' + 1 : Nat) : Int))) (fun x u11 => some (zjt (zgn T n a') v1 x, u11)) else some (v1, u2) := fun u2 a' v1 hu ha hf ha2 => by
    have e := v_byte H hu ha
    have hz := zgz_is H a'
    have hd := hsg (zgn T n a')
    have hnf : ¬ u2 129 17 ≥ 0 := by omega
    have hup : zw32 (u2 129 15 + 1) = ((a' + 1 : Nat) : Int) := by rw [ha]; exact zupn (by omega)
    rw [vq_129 e, gf_129, show ((17 : Nat) : Int) = 17 from rfl, if_neg hnf, zjn_ok]
    clear H hu e hgd hS hsg
    generalize zgz T n a' = z at *
    generalize zgn T n a' = g at *
    by_cases c1 : g = 60
    · rw [if_pos (hd.2 (Or.inl c1))]
      have hz1 : z = 60 := by omega
      subst c1 hz1
      rw [if_pos rfl]
      show zgf 11 15 129 _ _ = _
      rw [gf_129, show ((15 : Nat) : Int) = 15 from rfl, hup, pf_129, show ((15 : Nat) : Int) = 15 from rfl]
      congr 1
      funext x u'
      rw [zjn_ok, zjn_ok, if_neg (by decide), zjt_60]
      by_cases hx : v1 < x
      · rw [if_neg (by omega), if_pos hx]
      · rw [if_pos (by omega), if_neg hx]
    by_cases c2 : g = 61
    · rw [if_pos (hd.2 (Or.inr (Or.inl c2)))]
      have hz1 : z = 61 := by omega
      subst c2 hz1
      rw [if_neg (by decide), if_pos rfl]
      show zgf 11 15 129 _ _ = _
      rw [gf_129, show ((15 : Nat) : Int) = 15 from rfl, hup, pf_129, show ((15 : Nat) : Int) = 15 from rfl]
      congr 1
      funext x u'
      rw [zjn_ok, zjn_ok, if_pos (by decide), if_neg (by decide), zjt_61]
      by_cases hx : v1 = x
      · rw [if_neg (by omega), if_pos hx]
      · rw [if_pos (by omega), if_neg hx]
    by_cases c3 : g = 62
    · rw [if_pos (hd.2 (Or.inr (Or.inr c3)))]
      have hz1 : z = 62 := by omega
      subst c3 hz1
      rw [if_neg (by decide), if_neg (by decide), if_pos rfl]
      show zgf 11 15 129 _ _ = _
      rw [gf_129, show ((15 : Nat) : Int) = 15 from rfl, hup, pf_129, show ((15 : Nat) : Int) = 15 from rfl]
      congr 1
      funext x u'
      rw [zjn_ok, zjn_ok, if_pos (by decide), if_pos (by decide), zjt_62]
      by_cases hx : v1 > x
      · rw [if_neg (by omega), if_pos hx]
      · rw [if_pos (by omega), if_neg hx]
    · have hno : ¬ zgC g = true := fun q => by rcases hd.1 q with q | q | q <;> contradiction
      have hz1 : ¬ z = 60 := by omega
      have hz2 : ¬ z = 61 := by omega
      have hz3 : ¬ z = 62 := by omega
      rw [if_neg hz1, if_neg hz2, if_neg hz3, if_neg hno]
  have tailf : ∀ (u2 : zMem) (v1 : Int), zoV μ u2 → 0 ≤ u2 129 17 → 0 ≤ u2 129 15 →
      zvc 11 129 (fX11_byteAt 129 u2) (fun v3 u4 => zgf 11 17 129 u4 (fun v5 => if v5 ≥ 0 then (some (v1, u4)) else (zjn (fun (u6 : zMem) => zgf 11 15 129 u6 (fun v8 => zpf 11 15 129 (zw32 (v8 + 1)) u6 (fun u9 => zvc 11 129 (S u9) (fun v10 u11 => zjn (fun (u12 : zMem) => some (0, u12)) (fun k13 => zjn (fun (u14 : zMem) => some (1, u14)) (fun k15 => if v3 ≠ 60 then (if v3 ≠ 61 then (if v1 ≤ v10 then (k13 u11) else (k15 u11)) else (if v1 ≠ v10 then (k13 u11) else (k15 u11))) else (if v1 ≥ v10 then (k13 u11) else (k15 u11)))))))) (fun k7 => if v3 = 60 then (k7 u4) else (if v3 = 61 then (k7 u4) else (if v3 = 62 then (k7 u4) else (some (v1, u4)))))))) = some (v1, u2) := fun u2 v1 hu hf h0 => by
    obtain ⟨b, hb⟩ := v_byte_f H hu h0
    rw [vq_129 hb, gf_129, show ((17 : Nat) : Int) = 17 from rfl, if_pos hf]
  have hopC : ∀ g, zgC g = true → zop g := fun g hg => by
    rcases (hsg g).1 hg with rfl | rfl | rfl <;> exact ⟨by decide, by decide, by decide, by decide⟩
  refine ⟨fun u a hu ha hf ho ha2 => ?_, fun u hu hf h0 h1 => ?_⟩
  · obtain ⟨s1, s2⟩ := hS.1 u a hu ha hf ho ha2
    unfold zcm
    cases e : sub a with
    | inl g =>
      rw [zpB_l]
      refine ⟨fun g' h => ?_, fun a' cs h => (by cases h)⟩
      cases h
      obtain ⟨v, u2, b1, b2, b3, b4, b5⟩ := s1 g e
      exact ⟨v, u2, (vq_129 b1).trans (tailf u2 v b2 (by omega) b4), b2, b3, b4, b5⟩
    | inr q =>
      obtain ⟨a', cs⟩ := q
      obtain ⟨t1, t2, -⟩ := (hgd a ha2).2 a' cs e
      obtain ⟨v, u2, b1, b2, b3, b4, b5, b6⟩ := s2 a' cs e
      have ht := tail u2 a' v b2 b3 b4 t2
      rw [zpB_r]
      by_cases c : zgC (zgn T n a') = true
      · rw [if_pos c] at ht ⊢
        have hg := hopC _ c
        have haN := zgn_lt hg.1
        obtain ⟨x1, x2⟩ := hS.1 (zupd u2 129 15 ((a' + 1 : Nat) : Int)) (a' + 1) (zoV_t b2 zoV_15) zu_eq ((zu_j (by decide)).trans b4) ((zu_j (by decide)).trans b5) (by omega)
        cases e2 : sub (a' + 1) with
        | inl g =>
          rw [zpB_l]
          refine ⟨fun g' h => ?_, fun a' cs h => (by cases h)⟩
          cases h
          obtain ⟨x, u3, d1, d2, d3, d4, d5⟩ := x1 g e2
          rw [vq_129 d1] at ht
          exact ⟨_, u3, (vq_129 b1).trans ht, d2, d3, d4, d5⟩
        | inr q =>
          obtain ⟨a'', ds⟩ := q
          obtain ⟨x, u3, d1, d2, d3, d4, d5, d6⟩ := x2 a'' ds e2
          rw [vq_129 d1] at ht
          refine ⟨fun g' h => (by cases h), fun y ys h => ?_⟩
          rw [zpB_r] at h
          cases h
          exact ⟨_, u3, (vq_129 b1).trans ht, d2, d3, d4, d5, zvl_c b6 (zvL_s hg d6 zvL_0)⟩
      · rw [if_neg c] at ht ⊢
        refine ⟨fun g' h => (by cases h), fun y ys h => ?_⟩
        cases h
        exact ⟨v, u2, (vq_129 b1).trans ht, b2, b3, b4, b5, zvl_m (Nat.le_succ _) b6⟩
  · show zvc 11 129 (S u) _ = _
    rw [vq_129 (hS.2 u hu hf h0 h1)]
    exact tailf u 0 hu hf h0
