/-! ===== the class's reckoner: the stack, the codes ===== -/
def zsk (u : zMem) : List Int → Prop
  | [] => True
  | v :: S => u 25 (S.length : Int) = v ∧ zsk u S
set_option maxHeartbeats 400000 in
theorem zsk_keep {u u' : zMem} : ∀ S : List Int, zsk u S → (∀ j : Int, 0 ≤ j → j < S.length → u' 25 j = u 25 j) → zsk u' S
  | [], _, _ => trivial
  | v :: S, h, k => ⟨(k _ (by omega) (by rw [List.length_cons]; omega)).trans h.1, zsk_keep S h.2 (fun j h0 h1 => k j h0 (by rw [List.length_cons]; omega))⟩
def zst (u : zMem) (S : List Int) : Prop := u 23 3 = S.length ∧ S.length ≤ 64 ∧ zsk u S
/-- as before but for the stack -/
def zoW (μ u : zMem) : Prop := ∀ a j : Int, ¬ (a = 23 ∧ j = 3) → a ≠ 25 → u a j = μ a j
set_option maxHeartbeats 400000 in
theorem zoW_r {μ : zMem} : zoW μ μ := fun _ _ _ _ => rfl
set_option maxHeartbeats 400000 in
theorem zoW_t {μ u v : zMem} (h : zoW μ u) (g : zoW u v) : zoW μ v := fun a j x y => (g a j x y).trans (h a j x y)
set_option maxHeartbeats 400000 in
theorem zoW_G0 {μ u : zMem} (h : zoW μ u) (hG : zG0 μ) : zG0 u := zG0_keep hG (fun a j hr => h a j (fun q => by
  obtain ⟨rfl, rfl⟩ := q
  exact absurd hr (by decide)) (fun q => by
  subst q
  exact absurd hr (by rw [show zrfs 25 j = false from rfl]; decide)))
set_option maxHeartbeats 400000 in
theorem s7_pop {u : zMem} {S : List Int} (hG : zG0 u) (h : zst u S) : ∃ u', fX7_pop 23 u = some (zxh S, u') ∧ zst u' S.tail ∧ zoW u u' := by
  obtain ⟨h1, h2, h3⟩ := h
  cases S with
  | nil =>
    refine ⟨u, ?_, ⟨h1, h2, trivial⟩, zoW_r⟩
    unfold fX7_pop
    have h1' : u 23 3 = 0 := h1
    rw [gf_23, show ((3 : Nat) : Int) = 3 from rfl, h1', if_neg (by decide)]
    rfl
  | cons v S =>
    have e1 : u 23 3 = (S.length : Int) + 1 := by rw [h1, List.length_cons]; omega
    have hl : S.length < 64 := by rw [List.length_cons] at h2; omega
    have hw : zw32 ((S.length : Int) + 1 - 1) = S.length := by rw [zw32_id (by omega) (by omega)]; omega
    refine ⟨zupd u 23 3 S.length, ?_, ⟨zu_eq, ?_, zsk_keep S h3.2 (fun j _ _ => zu_a (by decide))⟩, fun a j x y => ?_⟩
    · unfold fX7_pop
      have c : (S.length : Int) + 1 > 0 := by omega
      rw [gf_23, show ((3 : Nat) : Int) = 3 from rfl, e1, if_pos c, gf_23, show ((3 : Nat) : Int) = 3 from rfl, e1, hw, pf_23, show ((3 : Nat) : Int) = 3 from rfl, gq_23_2 (zG0_up hG (by decide)), gf_23, show ((3 : Nat) : Int) = 3 from rfl, zu_eq, al_25 (by omega) (by omega), zu_a (by decide), h3.1]
      rfl
    · rw [List.tail_cons]; omega
    · unfold zupd
      rw [if_neg (by omega)]
set_option maxHeartbeats 400000 in
theorem s7_push {u : zMem} {S S' : List Int} {v : Int} (hG : zG0 u) (h : zst u S) (hv : zxp v S = some S') : ∃ u', fX7_push 23 v u = some (0, u') ∧ zst u' S' ∧ zoW u u' := by
  obtain ⟨h1, h2, h3⟩ := h
  unfold zxp at hv
  by_cases c : S.length < 64
  · rw [if_pos c] at hv
    cases hv
    have c2 : ¬ (S.length : Int) ≥ 64 := by omega
    have hw : zw32 ((S.length : Int) + 1) = ((v :: S).length : Nat) := by rw [zw32_id (by omega) (by omega), List.length_cons]; omega
    refine ⟨zupd (zupd u 25 S.length v) 23 3 ((v :: S).length : Nat), ?_, ⟨zu_eq, by rw [List.length_cons]; omega, ?_, zsk_keep S h3 (fun j j0 j1 => ?_)⟩, fun a j x y => ?_⟩
    · unfold fX7_push
      rw [gf_23, show ((3 : Nat) : Int) = 3 from rfl, h1, if_neg c2, gq_23_2 hG, gf_23, show ((3 : Nat) : Int) = 3 from rfl, h1, as_25 (by omega) (by omega), gf_23, show ((3 : Nat) : Int) = 3 from rfl, zu_a (by decide), h1, hw, pf_23]
      rfl
    · rw [zu_a (by decide), zu_eq]
    · rw [zu_a (by decide), zu_j (by omega)]
    · unfold zupd
      rw [if_neg (by omega), if_neg (by omega)]
  · rw [if_neg c] at hv
    cases hv
set_option maxHeartbeats 400000 in
theorem s7_joint {u : zMem} (o l r : Int) : fX7_joint o l r u = some (zjt o l r, u) := by
  have hb : ∀ c : Prop, [Decidable c] → (if c then (some ((0 : Int), u)) else some (1, u)) = some (if c then 0 else 1, u) := fun c _ => by split <;> rfl
  unfold fX7_joint zjt
  by_cases c1 : o = 37
  · rw [if_pos c1, if_pos c1]
    by_cases z : r = 0
    · rw [if_neg (fun q => q z), if_pos z]
    · rw [if_pos z, if_neg z, znz_ok z]
  rw [if_neg c1, if_neg c1]
  by_cases c2 : o = 38
  · rw [if_pos c2, if_pos c2, zjn_ok]
    by_cases z : l = 0
    · rw [if_pos z, if_neg (fun q => q.1 z)]
    · by_cases y : r = 0
      · rw [if_neg z, if_pos y, if_neg (fun q => q.2 y)]
      · rw [if_neg z, if_neg y, if_pos ⟨z, y⟩]
  rw [if_neg c2, if_neg c2]
  by_cases c3 : o = 42
  · rw [if_pos c3, if_pos c3]
  rw [if_neg c3, if_neg c3]
  by_cases c4 : o = 43
  · rw [if_pos c4, if_pos c4]
  rw [if_neg c4, if_neg c4]
  by_cases c5 : o = 45
  · rw [if_pos c5, if_pos c5]
  rw [if_neg c5, if_neg c5]
  by_cases c6 : o = 47
  · rw [if_pos c6, if_pos c6]
    by_cases z : r = 0
    · rw [if_neg (fun q => q z), if_pos z]
    · rw [if_pos z, if_neg z, znz_ok z]
  rw [if_neg c6, if_neg c6]
  by_cases c7 : o = 60
  · rw [if_pos c7, if_pos c7]
    by_cases z : l < r
    · rw [if_neg (by omega : ¬ l ≥ r), if_pos z]
    · rw [if_pos (by omega : l ≥ r), if_neg z]
  rw [if_neg c7, if_neg c7]
  by_cases c8 : o = 61
  · rw [if_pos c8, if_pos c8]
    by_cases z : l = r
    · rw [if_neg (fun q => q z), if_pos z]
    · rw [if_pos z, if_neg z]
  rw [if_neg c8, if_neg c8]
  by_cases c9 : o = 62
  · rw [if_pos c9, if_pos c9]
    by_cases z : l > r
    · rw [if_neg (by omega : ¬ l ≤ r), if_pos z]
    · rw [if_pos (by omega : l ≤ r), if_neg z]
  rw [if_neg c9, if_neg c9]
  by_cases c10 : o = 124
  · rw [if_pos c10, if_pos c10, zjn_ok]
    by_cases z : l = 0
    · by_cases y : r = 0
      · rw [if_neg (fun q => q z), if_pos y, if_neg (fun q => by rcases q with q | q <;> contradiction)]
      · rw [if_neg (fun q => q z), if_neg y, if_pos (Or.inr y)]
    · rw [if_pos z, if_pos (Or.inl z)]
  rw [if_neg c10, if_neg c10]
set_option maxHeartbeats 400000 in
theorem znk_8 {s : Int} : znk s < 8 := by
  unfold znk
  repeat (split; omega)
  omega
/- one code: the value of it, pushed -/
set_option maxHeartbeats 400000 in
theorem s7_one {u : zMem} {S S' : List Int} {c : Int} (hG : zG0 u) (h : zst u S) (hc : c < 20000) (hx : zx1 (u 24) c S = some S') : ∃ u', zoW u u' ∧ zst u' S' ∧ ∀ K : zMem → zRs, zvc 7 23 (fX7_valueOf 23 c u) (fun v14 u15 => zvc 7 23 (fX7_push 23 v14 u15) (fun _ u16 => K u16)) = K u' := by
  have fin : ∀ (v : Int) (u1 : zMem) (S1 : List Int), zoW u u1 → zst u1 S1 → fX7_valueOf 23 c u = some (v, u1) → zxp v S1 = some S' → ∃ u', zoW u u' ∧ zst u' S' ∧ ∀ K : zMem → zRs, zvc 7 23 (fX7_valueOf 23 c u) (fun v14 u15 => zvc 7 23 (fX7_push 23 v14 u15) (fun _ u16 => K u16)) = K u' := fun v u1 S1 a b e f => by
    obtain ⟨u2, p1, p2, p3⟩ := s7_push (zoW_G0 a hG) b f
    exact ⟨u2, zoW_t a p3, p2, fun K => by rw [vq_23 e, vq_23 p1]⟩
  unfold zx1 at hx
  by_cases c1 : c < 10000
  · rw [if_pos c1] at hx
    refine fin c u S zoW_r h ?_ hx
    unfold fX7_valueOf
    rw [if_neg (by omega : ¬ c ≥ 10000)]
  rw [if_neg c1] at hx
  have hw : zw32 (c - 10000) = c - 10000 := zw32_id (by omega) (by omega)
  have hn : fX9_nameOf (c - 10000) u = some (znk (c - 10000), u) := t_nameOf _
  have h8 := znk_8 (s := c - 10000)
  by_cases c2 : 0 ≤ znk (c - 10000)
  · rw [if_pos c2] at hx
    refine fin _ u S zoW_r h ?_ hx
    unfold fX7_valueOf
    rw [if_pos (by omega : c ≥ 10000), hw, zcall_of hn, zjn_ok, if_neg (by omega : ¬ znk (c - 10000) < 0), gq_23_1 hG, ln_24, if_neg (by omega : ¬ znk (c - 10000) ≥ 8), gq_23_1 hG, al_24 c2 h8]
  rw [if_neg c2] at hx
  obtain ⟨u1, p1, p2, p3⟩ := s7_pop hG h
  by_cases c3 : c = 10033
  · rw [if_pos c3] at hx
    refine fin _ u1 S.tail p3 p2 ?_ hx
    unfold fX7_valueOf
    rw [if_pos (by omega : c ≥ 10000), hw, zcall_of hn, zjn_ok, if_pos (by omega : znk (c - 10000) < 0)]
    show zvc 7 23 (fX7_pop 23 u) _ = _
    rw [vq_23 p1, if_pos (by omega : c - 10000 = 33)]
    by_cases z : zxh S = 0
    · rw [if_neg (fun q => q z), if_pos z]
    · rw [if_pos z, if_neg z]
  rw [if_neg c3] at hx
  by_cases c4 : c = 10126
  · rw [if_pos c4] at hx
    refine fin _ u1 S.tail p3 p2 ?_ hx
    unfold fX7_valueOf
    rw [if_pos (by omega : c ≥ 10000), hw, zcall_of hn, zjn_ok, if_pos (by omega : znk (c - 10000) < 0)]
    show zvc 7 23 (fX7_pop 23 u) _ = _
    rw [vq_23 p1, if_neg (by omega : ¬ c - 10000 = 33), if_pos (by omega : c - 10000 = 126)]
  rw [if_neg c4] at hx
  obtain ⟨u2, q1, q2, q3⟩ := s7_pop (zoW_G0 p3 hG) p2
  refine fin _ u2 S.tail.tail (zoW_t p3 q3) q2 ?_ hx
  unfold fX7_valueOf
  rw [if_pos (by omega : c ≥ 10000), hw, zcall_of hn, zjn_ok, if_pos (by omega : znk (c - 10000) < 0)]
  show zvc 7 23 (fX7_pop 23 u) _ = _
  rw [vq_23 p1, if_neg (by omega : ¬ c - 10000 = 33), if_neg (by omega : ¬ c - 10000 = 126), vq_23 q1, zcall_of (s7_joint _ _ _)]
