/-! ===== the reference reads a text ===== -/
def zTr (μ : zMem) (T : Nat → Int) (n : Nat) : Prop := zG0 μ ∧ μ 129 16 = n ∧ n ≤ 120 ∧ (∀ i : Nat, i < n → 0 ≤ T i) ∧ ((μ 129 14 < 0 ∧ ∀ i : Nat, i < n → μ 134 i = T i) ∨ ∃ w : Int, 0 ≤ w ∧ w < 4 ∧ μ 129 14 = 120 * w ∧ ∀ i : Nat, i < n → μ 137 (120 * w + i) = T i)
def zoV (μ u : zMem) : Prop := ∀ a j : Int, ¬ (a = 129 ∧ (j = 15 ∨ j = 17 ∨ j = 18)) → u a j = μ a j
set_option maxHeartbeats 400000 in
theorem zoV_r {μ : zMem} : zoV μ μ := fun _ _ _ => rfl
set_option maxHeartbeats 400000 in
theorem zoV_t {μ u w : zMem} (h : zoV μ u) (h' : zoV u w) : zoV μ w := fun a j q => (h' a j q).trans (h a j q)
set_option maxHeartbeats 400000 in
theorem zoV_G0 {μ u : zMem} (h : zoV μ u) (hG : zG0 μ) : zG0 u := zG0_keep hG (fun a j hr => h a j (fun q => by
    obtain ⟨rfl, q⟩ := q
    rcases q with rfl | rfl | rfl <;> · revert hr; decide))
set_option maxHeartbeats 400000 in
theorem zoV_15 {u : zMem} {v : Int} : zoV u (zupd u 129 15 v) := fun a j q => by unfold zupd; rw [if_neg (by omega)]
set_option maxHeartbeats 400000 in
theorem zoV_17 {u : zMem} {v : Int} : zoV u (zupd u 129 17 v) := fun a j q => by unfold zupd; rw [if_neg (by omega)]
set_option maxHeartbeats 400000 in
theorem zoV_18 {u : zMem} {v : Int} : zoV u (zupd u 129 18 v) := fun a j q => by unfold zupd; rw [if_neg (by omega)]
def zgz (T : Nat → Int) (n a : Nat) : Int := if a < n then T a else 0
set_option maxHeartbeats 400000 in
theorem zgz_is {μ : zMem} {T : Nat → Int} {n : Nat} (H : zTr μ T n) (a : Nat) : (zgz T n a = zgn T n a ∧ 0 ≤ zgn T n a) ∨ (zgz T n a = 0 ∧ zgn T n a = -1) := by
  by_cases c : a < n
  · rw [zgn_i c, zgz, if_pos c]
    exact Or.inl ⟨rfl, H.2.2.2.1 a c⟩
  · rw [zgn_o c, zgz, if_neg c]
    exact Or.inr ⟨rfl, rfl⟩
set_option maxHeartbeats 400000 in
theorem v_byte {μ u : zMem} {T : Nat → Int} {n a : Nat} (H : zTr μ T n) (hu : zoV μ u) (ha : u 129 15 = a) : fX11_byteAt 129 u = some (zgz T n a, u) := by
  obtain ⟨hG, h1, h2, h3, h4⟩ := H
  have hGu := zoV_G0 hu hG
  have q16 : u 129 16 = n := (hu _ _ (by omega)).trans h1
  have q14 : u 129 14 = μ 129 14 := hu _ _ (by omega)
  unfold fX11_byteAt zgz
  by_cases c : a < n
  · rw [if_pos c]
    rcases h4 with ⟨b, t⟩ | ⟨w, w0, w1, b, t⟩
    · have t2 : u 134 a = T a := (hu _ _ (by omega)).trans (t a c)
      clear h3 t hu
      simp (disch := omega) only [ha, q16, q14, t2, ↓zcall_ok, zcall_ok, ↓zjn_ok, zjn_ok, ↓zbl_0, zbl_0, ↓zbl_1, zbl_1, ↓if_pos, if_pos, ↓if_neg, if_neg, ↓zb_ite, zb_ite, ↓zb_itn, zb_itn, ↓gf_129, gf_129, ↓pf_129, pf_129, ↓vc_129, vc_129, ↓al_134, al_134, ↓as_134, as_134, ↓ln_134, ln_134, if_true, if_false, not_true_eq_false, not_false_eq_true, zu_eq, zu_a, zu_j, ge_iff_le, gt_iff_lt, ne_eq, Int.cast_ofNat_Int, Int.add_zero, Int.zero_add, Int.reduceAdd, Int.reduceSub, Int.reduceMul, Int.reduceNeg, ↓gq_129_0 hGu, ↓gq_129_1 hGu, ↓gq_129_2 hGu, ↓gq_129_3 hGu, ↓gq_129_7 hGu, ↓gq_129_10 hGu, ↓gq_129_11 hGu, ↓gq_129_12 hGu, ↓gq_129_13 hGu, ↓gq_129_19 hGu, ↓gq_129_21 hGu, ↓gq_129_22 hGu, ↓gq_129_23 hGu, ↓gq_129_24 hGu, ↓gq_129_25 hGu, ↓gq_129_26 hGu, ↓gq_129_28 hGu, ↓gq_129_29 hGu, ↓gq_129_33 hGu, ↓gq_129_34 hGu, ↓gq_129_35 hGu, ↓gq_129_36 hGu, g_129_0 hGu, g_129_1 hGu, g_129_2 hGu, g_129_3 hGu, g_129_7 hGu, g_129_10 hGu, g_129_11 hGu, g_129_12 hGu, g_129_13 hGu, g_129_19 hGu, g_129_21 hGu, g_129_22 hGu, g_129_23 hGu, g_129_24 hGu, g_129_25 hGu, g_129_26 hGu, g_129_28 hGu, g_129_29 hGu, g_129_33 hGu, g_129_34 hGu, g_129_35 hGu, g_129_36 hGu]
    · have t2 : u 137 (120 * w + a) = T a := (hu _ _ (by omega)).trans (t a c)
      clear h3 t hu
      simp (disch := omega) only [ha, q16, q14, b, t2, zw32_id, ↓zcall_ok, zcall_ok, ↓zjn_ok, zjn_ok, ↓zbl_0, zbl_0, ↓zbl_1, zbl_1, ↓if_pos, if_pos, ↓if_neg, if_neg, ↓zb_ite, zb_ite, ↓zb_itn, zb_itn, ↓gf_129, gf_129, ↓pf_129, pf_129, ↓vc_129, vc_129, ↓al_137, al_137, ↓as_137, as_137, ↓ln_137, ln_137, if_true, if_false, not_true_eq_false, not_false_eq_true, zu_eq, zu_a, zu_j, ge_iff_le, gt_iff_lt, ne_eq, Int.cast_ofNat_Int, Int.add_zero, Int.zero_add, Int.reduceAdd, Int.reduceSub, Int.reduceMul, Int.reduceNeg, ↓gq_129_0 hGu, ↓gq_129_1 hGu, ↓gq_129_2 hGu, ↓gq_129_3 hGu, ↓gq_129_7 hGu, ↓gq_129_10 hGu, ↓gq_129_11 hGu, ↓gq_129_12 hGu, ↓gq_129_13 hGu, ↓gq_129_19 hGu, ↓gq_129_21 hGu, ↓gq_129_22 hGu, ↓gq_129_23 hGu, ↓gq_129_24 hGu, ↓gq_129_25 hGu, ↓gq_129_26 hGu, ↓gq_129_28 hGu, ↓gq_129_29 hGu, ↓gq_129_33 hGu, ↓gq_129_34 hGu, ↓gq_129_35 hGu, ↓gq_129_36 hGu, g_129_0 hGu, g_129_1 hGu, g_129_2 hGu, g_129_3 hGu, g_129_7 hGu, g_129_10 hGu, g_129_11 hGu, g_129_12 hGu, g_129_13 hGu, g_129_19 hGu, g_129_21 hGu, g_129_22 hGu, g_129_23 hGu, g_129_24 hGu, g_129_25 hGu, g_129_26 hGu, g_129_28 hGu, g_129_29 hGu, g_129_33 hGu, g_129_34 hGu, g_129_35 hGu, g_129_36 hGu]
  · rw [if_neg c]
    clear h3 h4 hu
    simp (disch := omega) only [ha, q16, ↓zcall_ok, zcall_ok, ↓zjn_ok, zjn_ok, ↓zbl_0, zbl_0, ↓zbl_1, zbl_1, ↓if_pos, if_pos, ↓if_neg, if_neg, ↓zb_ite, zb_ite, ↓zb_itn, zb_itn, ↓gf_129, gf_129, ↓pf_129, pf_129, ↓vc_129, vc_129, if_true, if_false, not_true_eq_false, not_false_eq_true, zu_eq, zu_a, zu_j, ge_iff_le, gt_iff_lt, ne_eq, Int.cast_ofNat_Int, Int.add_zero, Int.zero_add, Int.reduceAdd, Int.reduceSub, Int.reduceMul, Int.reduceNeg, ↓gq_129_0 hGu, ↓gq_129_1 hGu, ↓gq_129_2 hGu, ↓gq_129_3 hGu, ↓gq_129_7 hGu, ↓gq_129_10 hGu, ↓gq_129_11 hGu, ↓gq_129_12 hGu, ↓gq_129_13 hGu, ↓gq_129_19 hGu, ↓gq_129_21 hGu, ↓gq_129_22 hGu, ↓gq_129_23 hGu, ↓gq_129_24 hGu, ↓gq_129_25 hGu, ↓gq_129_26 hGu, ↓gq_129_28 hGu, ↓gq_129_29 hGu, ↓gq_129_33 hGu, ↓gq_129_34 hGu, ↓gq_129_35 hGu, ↓gq_129_36 hGu, g_129_0 hGu, g_129_1 hGu, g_129_2 hGu, g_129_3 hGu, g_129_7 hGu, g_129_10 hGu, g_129_11 hGu, g_129_12 hGu, g_129_13 hGu, g_129_19 hGu, g_129_21 hGu, g_129_22 hGu, g_129_23 hGu, g_129_24 hGu, g_129_25 hGu, g_129_26 hGu, g_129_28 hGu, g_129_29 hGu, g_129_33 hGu, g_129_34 hGu, g_129_35 hGu, g_129_36 hGu]
set_option maxHeartbeats 400000 in
theorem v_byte_f {μ u : zMem} {T : Nat → Int} {n : Nat} (H : zTr μ T n) (hu : zoV μ u) (h0 : 0 ≤ u 129 15) : ∃ b, fX11_byteAt 129 u = some (b, u) := by
  obtain ⟨a, ha⟩ : ∃ a : Nat, u 129 15 = a := ⟨(u 129 15).toNat, by omega⟩
  exact ⟨_, v_byte H hu ha⟩
set_option maxHeartbeats 400000 in
theorem v_takes {μ u : zMem} {T : Nat → Int} {n a : Nat} {w : Int} (H : zTr μ T n) (hu : zoV μ u) (ha : u 129 15 = a) (ha2 : a ≤ n) (hf : u 129 17 = -1) (hw : 0 < w) : fX11_takes 129 w u = if zgn T n a = w then some (1, zupd u 129 15 ((a + 1 : Nat) : Int)) else some (0, u) := by
  have e := v_byte H hu ha
  have h2 := H.2.2.1
  have hz := zgz_is H a
  unfold fX11_takes
  clear H hu
  generalize zgz T n a = g at *
  by_cases c : zgn T n a = w
  · rw [if_pos c]
    have hg : g = w := by omega
    simp (disch := omega) only [hf, ↓(vq_129 e), ha, zupn, ↓zcall_ok, zcall_ok, ↓zjn_ok, zjn_ok, ↓zbl_0, zbl_0, ↓zbl_1, zbl_1, ↓if_pos, if_pos, ↓if_neg, if_neg, ↓zb_ite, zb_ite, ↓zb_itn, zb_itn, ↓gf_129, gf_129, ↓pf_129, pf_129, ↓vc_129, vc_129, if_true, if_false, not_true_eq_false, not_false_eq_true, zu_eq, zu_a, zu_j, ge_iff_le, gt_iff_lt, ne_eq, Int.cast_ofNat_Int, Int.add_zero, Int.zero_add, Int.reduceAdd, Int.reduceSub, Int.reduceMul, Int.reduceNeg]
  · rw [if_neg c]
    have hg : ¬ g = w := by omega
    simp (disch := omega) only [hf, ↓(vq_129 e), ↓zcall_ok, zcall_ok, ↓zjn_ok, zjn_ok, ↓zbl_0, zbl_0, ↓zbl_1, zbl_1, ↓if_pos, if_pos, ↓if_neg, if_neg, ↓zb_ite, zb_ite, ↓zb_itn, zb_itn, ↓gf_129, gf_129, ↓pf_129, pf_129, ↓vc_129, vc_129, if_true, if_false, not_true_eq_false, not_false_eq_true, zu_eq, zu_a, zu_j, ge_iff_le, gt_iff_lt, ne_eq, Int.cast_ofNat_Int, Int.add_zero, Int.zero_add, Int.reduceAdd, Int.reduceSub, Int.reduceMul, Int.reduceNeg]
set_option maxHeartbeats 400000 in
theorem v_takes_f {u : zMem} {w : Int} (hf : 0 ≤ u 129 17) : fX11_takes 129 w u = some (0, u) := by
  unfold fX11_takes
  simp (disch := omega) only [↓zcall_ok, zcall_ok, ↓zjn_ok, zjn_ok, ↓zbl_0, zbl_0, ↓zbl_1, zbl_1, ↓if_pos, if_pos, ↓if_neg, if_neg, ↓zb_ite, zb_ite, ↓zb_itn, zb_itn, ↓gf_129, gf_129, ↓pf_129, pf_129, ↓vc_129, vc_129, if_true, if_false, not_true_eq_false, not_false_eq_true, zu_eq, zu_a, zu_j, ge_iff_le, gt_iff_lt, ne_eq, Int.cast_ofNat_Int, Int.add_zero, Int.zero_add, Int.reduceAdd, Int.reduceSub, Int.reduceMul, Int.reduceNeg]
set_option maxHeartbeats 400000 in
theorem v_wrong {u : zMem} {a : Nat} (ha : u 129 15 = a) (hf : u 129 17 = -1) : fX11_wrong 129 u = some (0, zupd u 129 17 a) := by
  unfold fX11_wrong
  simp (disch := omega) only [hf, ha, ↓zcall_ok, zcall_ok, ↓zjn_ok, zjn_ok, ↓zbl_0, zbl_0, ↓zbl_1, zbl_1, ↓if_pos, if_pos, ↓if_neg, if_neg, ↓zb_ite, zb_ite, ↓zb_itn, zb_itn, ↓gf_129, gf_129, ↓pf_129, pf_129, ↓vc_129, vc_129, if_true, if_false, not_true_eq_false, not_false_eq_true, zu_eq, zu_a, zu_j, ge_iff_le, gt_iff_lt, ne_eq, Int.cast_ofNat_Int, Int.add_zero, Int.zero_add, Int.reduceAdd, Int.reduceSub, Int.reduceMul, Int.reduceNeg]
set_option maxHeartbeats 400000 in
theorem v_wrong_f {u : zMem} (hf : 0 ≤ u 129 17) : fX11_wrong 129 u = some (0, u) := by
  have e : zupd u 129 17 (u 129 17) = u := zu_self rfl
  unfold fX11_wrong
  simp (disch := omega) only [e, ↓zcall_ok, zcall_ok, ↓zjn_ok, zjn_ok, ↓zbl_0, zbl_0, ↓zbl_1, zbl_1, ↓if_pos, if_pos, ↓if_neg, if_neg, ↓zb_ite, zb_ite, ↓zb_itn, zb_itn, ↓gf_129, gf_129, ↓pf_129, pf_129, ↓vc_129, vc_129, if_true, if_false, not_true_eq_false, not_false_eq_true, zu_eq, zu_a, zu_j, ge_iff_le, gt_iff_lt, ne_eq, Int.cast_ofNat_Int, Int.add_zero, Int.zero_add, Int.reduceAdd, Int.reduceSub, Int.reduceMul, Int.reduceNeg]
/-! ### values -/
def zvL (nm : Int → Int) (h : Nat) (ds : List Int) (v v' : Int) : Prop := ∀ S : List Int, S.length + h + 1 ≤ 64 → zex nm ds (v :: S) = some (v' :: S)
set_option maxHeartbeats 400000 in
theorem zvL_0 {nm : Int → Int} {h : Nat} {v : Int} : zvL nm h [] v v := fun _ _ => rfl
def zop (g : Int) : Prop := 0 ≤ g ∧ znk g < 0 ∧ g ≠ 33 ∧ g ≠ 126
set_option maxHeartbeats 400000 in
theorem zvL_s {nm : Int → Int} {h : Nat} {cs ds : List Int} {v w v' g : Int} (hg : zop g) (hc : zvl nm h cs w) (hd : zvL nm h ds (zjt g v w) v') : zvL nm h (cs ++ (10000 + g) :: ds) v v' := fun S hS => by
  rw [zex_app, hc (v :: S) (by rw [List.length_cons]; omega), Option.bind_some]
  show (zx1 nm (10000 + g) (w :: v :: S)).bind (zex nm ds) = _
  rw [zx1_2 hg.1 hg.2.1 hg.2.2.1 hg.2.2.2 (by omega), Option.bind_some]
  exact hd S hS
set_option maxHeartbeats 400000 in
theorem zvl_c {nm : Int → Int} {h : Nat} {cs ds : List Int} {v v' : Int} (hc : zvl nm h cs v) (hd : zvL nm h ds v v') : zvl nm (h + 1) (cs ++ ds) v' := fun S hS => by
  rw [zex_app, hc S (by omega), Option.bind_some]
  exact hd S (by omega)
set_option maxHeartbeats 400000 in
theorem zvl_m {nm : Int → Int} {h h' : Nat} {cs : List Int} {v : Int} (hh : h ≤ h') (hc : zvl nm h cs v) : zvl nm h' cs v := fun S hS => hc S (by omega)
def zRl (μ : zMem) (n : Nat) (X : zMem → zRs) (g : Nat) (u : zMem) : Prop := ∃ v u', X u = some (v, u') ∧ zoV μ u' ∧ u' 129 17 = g ∧ 0 ≤ u' 129 15 ∧ u' 129 15 ≤ n
def zRr (μ : zMem) (V : Int → Prop) (X : zMem → zRs) (a' : Nat) (o : Int) (u : zMem) : Prop := ∃ v u', X u = some (v, u') ∧ zoV μ u' ∧ u' 129 15 = a' ∧ u' 129 17 = -1 ∧ u' 129 18 = o ∧ V v
def zRI (μ : zMem) (n : Nat) (nm : Int → Int) (h : Nat) (o : Int) (f : Nat → zRp) (X : zMem → zRs) : Prop :=
  (∀ (u : zMem) (a : Nat), zoV μ u → u 129 15 = a → u 129 17 = -1 → u 129 18 = o → a ≤ n → (∀ g, f a = .inl g → zRl μ n X g u) ∧ ∀ a' cs, f a = .inr (a', cs) → zRr μ (zvl nm h cs) X a' o u) ∧
  ∀ u : zMem, zoV μ u → 0 ≤ u 129 17 → 0 ≤ u 129 15 → u 129 15 ≤ n → X u = some (0, u)
/-- what a loop behind a first part must do -/
def zRL (μ : zMem) (n : Nat) (nm : Int → Int) (h : Nat) (o : Int) (f : Nat → zRp) (X : Int → zMem → zRs) : Prop :=
  (∀ (u : zMem) (a : Nat) (v : Int), zoV μ u → u 129 15 = a → u 129 17 = -1 → u 129 18 = o → a ≤ n → (∀ g, f a = .inl g → zRl μ n (X v) g u) ∧ ∀ a' ds, f a = .inr (a', ds) → zRr μ (zvL nm h ds v) (X v) a' o u) ∧
  ∀ (u : zMem) (v : Int), zoV μ u → 0 ≤ u 129 17 → 0 ≤ u 129 15 → u 129 15 ≤ n → X v u = some (v, u)
set_option maxHeartbeats 400000 in
theorem v_seq {μ : zMem} {T : Nat → Int} {n h : Nat} {nm : Int → Int} {o : Int} {sub : Nat → zRp} {sg : Int → Bool} {S : zMem → zRs} {Lp : Int → zMem → zRs} (hgd : zgd n sub) (hS : zRI μ n nm h o sub S) (hL : zRL μ n nm h o (zlL sub sg (zgn T n) 120) Lp) : zRI μ n nm (h + 1) o (zch sub sg (zgn T n)) (fun u => zvc 11 129 (S u) (fun v u1 => Lp v u1)) := by
  refine ⟨fun u a hu ha hf ho ha2 => ?_, fun u hu hf h0 h1 => ?_⟩
  · obtain ⟨s1, s2⟩ := hS.1 u a hu ha hf ho ha2
    unfold zch
    cases e : sub a with
    | inl g =>
      rw [zpB_l]
      refine ⟨fun g' h => ?_, fun a' cs h => (by cases h)⟩
      cases h
      obtain ⟨v, u2, b1, b2, b3, b4, b5⟩ := s1 g e
      refine ⟨v, u2, ?_, b2, b3, b4, b5⟩
      show zvc 11 129 (S u) _ = _
      rw [vq_129 b1]
      exact hL.2 u2 v b2 (by omega) b4 b5
    | inr q =>
      obtain ⟨a', cs⟩ := q
      obtain ⟨t1, t2, -⟩ := (hgd a ha2).2 a' cs e
      obtain ⟨v, u2, b1, b2, b3, b4, b5, b6⟩ := s2 a' cs e
      obtain ⟨r1, r2⟩ := hL.1 u2 a' v b2 b3 b4 b5 t2
      rw [zpB_r]
      cases e2 : zlL sub sg (zgn T n) 120 a' with
      | inl g =>
        refine ⟨fun g' h => ?_, fun a' cs h => (by cases h)⟩
        cases h
        obtain ⟨v', u4, q1, q2⟩ := r1 g e2
        exact ⟨v', u4, (vq_129 b1).trans q1, q2⟩
      | inr q =>
        obtain ⟨a'', ds⟩ := q
        refine ⟨fun g' h => (by cases h), fun x xs h => ?_⟩
        rw [zpB_r] at h
        cases h
        obtain ⟨v', u4, q1, q2, q3, q4, q5, q6⟩ := r2 a'' ds e2
        exact ⟨v', u4, (vq_129 b1).trans q1, q2, q3, q4, q5, zvl_c b6 q6⟩
  · show zvc 11 129 (S u) _ = _
    rw [vq_129 (hS.2 u hu hf h0 h1)]
    exact hL.2 u 0 hu hf h0 h1
def zLPA (S : zMem → zRs) (w : Int) (J : Int → Int → zMem → (Int → zMem → zRs) → zRs) (v1 : Int) (u2 : zMem) : zRs := zlp (fun _ _ => none) (fun k5 (v3 : Int) (u4 : zMem) => zvc 11 129 (fX11_takes 129 w u4) (fun v6 u7 => if v6 = 0 then (some (v3, u7)) else (zvc 11 129 (S u7) (fun v8 u9 => J v3 v8 u9 k5)))) 1000000 v1 u2
set_option maxHeartbeats 400000 in
theorem v_loopA {μ : zMem} {T : Nat → Int} {n h : Nat} {nm : Int → Int} {o : Int} {sub : Nat → zRp} {S : zMem → zRs} {w : Int} {sg : Int → Bool} {J : Int → Int → zMem → (Int → zMem → zRs) → zRs} (H : zTr μ T n) (hgd : zgd n sub) (hS : zRI μ n nm h o sub S) (hw : zop w) (hsg : ∀ g, sg g = true ↔ g = w) (hw0 : 0 < w) (hJ : ∀ v x u k, J v x u k = k (zjt w v x) u) :
    zRL μ n nm h o (zlL sub sg (zgn T n) 120) (zLPA S w J) := by
  have h120 := H.2.2.1
  have key := zlp_meas (bot := fun (_ : Int) (_ : zMem) => (none : zRs)) (F := fun k5 (v3 : Int) (u4 : zMem) => zvc 11 129 (fX11_takes 129 w u4) (fun v6 u7 => if v6 = 0 then (some (v3, u7)) else (zvc 11 129 (S u7) (fun v8 u9 => J v3 v8 u9 k5))))
    (fun m (f : Int → zMem → zRs) => ∀ k : Nat, k < m →
      (∀ (u : zMem) (a : Nat) (v : Int), zoV μ u → u 129 15 = a → u 129 17 = -1 → u 129 18 = o → a ≤ n → 120 ≤ a + k → (∀ g, zlL sub sg (zgn T n) k a = .inl g → zRl μ n (f v) g u) ∧ ∀ a' ds, zlL sub sg (zgn T n) k a = .inr (a', ds) → zRr μ (zvL nm h ds v) (f v) a' o u) ∧
      ∀ (u : zMem) (v : Int), zoV μ u → 0 ≤ u 129 17 → f v u = some (v, u))
    (fun k h => absurd h (Nat.not_lt_zero _)) (fun m f ih k hk => ?_) 1000000 120 (by omega)
  · refine ⟨fun u a v hu ha hf ho ha2 => ?_, fun u v hu hf _ _ => (show zLPA S w J v u = _ from key.2 u v hu hf)⟩
    obtain ⟨r1, r2⟩ := key.1 u a v hu ha hf ho ha2 (by omega)
    refine ⟨fun g h => ?_, fun a' ds h => ?_⟩
    · obtain ⟨v', u', q1, q2⟩ := r1 g h
      exact ⟨v', u', (show zLPA S w J v u = _ from q1), q2⟩
    · obtain ⟨v', u', q1, q2⟩ := r2 a' ds h
      exact ⟨v', u', (show zLPA S w J v u = _ from q1), q2⟩
  · refine ⟨fun u a v hu ha hf ho ha2 hak => ?_, fun u v hu hf => ?_⟩
    · have hp := v_takes (w := w) H hu ha ha2 hf hw0
      have no : ¬ zgn T n a = w → zRr μ (zvL nm h [] v) (fun u4 => zvc 11 129 (fX11_takes 129 w u4) (fun v6 u7 => if v6 = 0 then (some (v, u7)) else (zvc 11 129 (S u7) (fun v8 u9 => J v v8 u9 f)))) a o u := fun c => by
        rw [if_neg c] at hp
        refine ⟨v, u, ?_, hu, ha, hf, ho, zvL_0⟩
        show zvc 11 129 (fX11_takes 129 w u) _ = _
        rw [vq_129 hp, if_pos rfl]
      cases k with
      | zero =>
        refine ⟨fun g h => (by cases h), fun a' ds h => ?_⟩
        cases h
        exact no (fun q => by
          have := zgn_lt (T := T) (n := n) (a := a) (by omega)
          omega)
      | succ k =>
        unfold zlL
        by_cases c : sg (zgn T n a) = true
        · have hc := (hsg _).1 c
          have haN := zgn_lt (T := T) (n := n) (a := a) (by omega)
          rw [if_pos hc] at hp
          rw [if_pos c]
          obtain ⟨ih1, ih2⟩ := ih k (by omega)
          obtain ⟨s1, s2⟩ := hS.1 (zupd u 129 15 ((a + 1 : Nat) : Int)) (a + 1) (zoV_t hu zoV_15) zu_eq ((zu_j (by decide)).trans hf) ((zu_j (by decide)).trans ho) (by omega)
          have go : ∀ x u2 R, S (zupd u 129 15 ((a + 1 : Nat) : Int)) = some (x, u2) → f (zjt w v x) u2 = R → zvc 11 129 (fX11_takes 129 w u) (fun v6 u7 => if v6 = 0 then (some (v, u7)) else (zvc 11 129 (S u7) (fun v8 u9 => J v v8 u9 f))) = R := fun x u2 R q1 q2 => by
            rw [vq_129 hp, if_neg (by decide), vq_129 q1, hJ]
            exact q2
          cases e : sub (a + 1) with
          | inl g =>
            rw [zpB_l]
            refine ⟨fun g' h => ?_, fun a' cs h => (by cases h)⟩
            cases h
            obtain ⟨x, u2, b1, b2, b3, b4, b5⟩ := s1 g e
            exact ⟨_, u2, go x u2 _ b1 (ih2 u2 _ b2 (by omega)), b2, b3, b4, b5⟩
          | inr q =>
            obtain ⟨a', cs⟩ := q
            obtain ⟨t1, t2, -⟩ := (hgd (a + 1) (by omega)).2 a' cs e
            obtain ⟨x, u2, b1, b2, b3, b4, b5, b6⟩ := s2 a' cs e
            obtain ⟨r1, r2⟩ := ih1 u2 a' (zjt w v x) b2 b3 b4 b5 t2 (by omega)
            rw [zpB_r]
            cases e2 : zlL sub sg (zgn T n) k a' with
            | inl g =>
              refine ⟨fun g' h => ?_, fun a' cs h => (by cases h)⟩
              cases h
              obtain ⟨v', u4, q1, q2⟩ := r1 g e2
              exact ⟨v', u4, go x u2 _ b1 q1, q2⟩
            | inr q =>
              obtain ⟨a'', ds⟩ := q
              refine ⟨fun g' h => (by cases h), fun y ys h => ?_⟩
              rw [zpB_r] at h
              cases h
              obtain ⟨v', u4, q1, q2, q3, q4, q5, q6⟩ := r2 a'' ds e2
              refine ⟨v', u4, go x u2 _ b1 q1, q2, q3, q4, q5, ?_⟩
              rw [hc]
              exact zvL_s hw b6 q6
        · have hc : ¬ zgn T n a = w := fun q => c ((hsg _).2 q)
          rw [if_neg c]
          refine ⟨fun g h => (by cases h), fun a' ds h => ?_⟩
          cases h
          exact no hc
    · show zvc 11 129 (fX11_takes 129 w u) _ = _
      rw [vq_129 (v_takes_f hf), if_pos rfl]
