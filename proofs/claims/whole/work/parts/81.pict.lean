/-! ===== a paper as a list ===== -/
abbrev zEn : Type := Int × Int × Int × Int
def zrow (r0 r1 r2 r3 : Int → Int) (L : List zEn) : Prop := ∀ (k : Nat) (e : zEn), L[k]? = some e → r0 k = e.1 ∧ r1 k = e.2.1 ∧ r2 k = e.2.2.1 ∧ r3 k = e.2.2.2
def zpC (μ : zMem) (p : Int) (L : List zEn) : Prop := μ (zbP p) 1 = L.length ∧ zrow (μ (zbP p + 2)) (μ (zbP p + 2 + 1)) (μ (zbP p + 2 + 2)) (μ (zbP p + 2 + 3)) L
def zpR (μ : zMem) (p : Int) (L : List zEn) : Prop := μ 141 p = L.length ∧ zrow (fun k => μ 142 (16 * p + k)) (fun k => μ 143 (16 * p + k)) (fun k => μ 144 (16 * p + k)) (fun k => μ 145 (16 * p + k)) L
def zeok (N : Int) (e : zEn) : Prop := (0 ≤ e.1 ∧ e.1 < N) ∧ (0 ≤ e.2.1 ∧ e.2.1 ≤ 3) ∧ (0 ≤ e.2.2.1 ∧ e.2.2.1 ≤ 999) ∧ 0 ≤ e.2.2.2 ∧ e.2.2.2 ≤ 1
def zlok (N : Int) (L : List zEn) : Prop := L.length ≤ 16 ∧ (∀ e ∈ L, zeok N e) ∧ L.Pairwise (fun a b => a.1 ≠ b.1)
set_option maxHeartbeats 400000 in
theorem zgetE {L : List zEn} {k : Nat} (h : k < L.length) : ∃ e, L[k]? = some e := ⟨L[k], List.getElem?_eq_getElem h⟩
set_option maxHeartbeats 400000 in
theorem zgetL {L : List zEn} {k : Nat} {e : zEn} (h : L[k]? = some e) : k < L.length := (List.getElem?_eq_some_iff.mp h).1
set_option maxHeartbeats 400000 in
theorem zPp_of {μ : zMem} {N W p : Int} {L : List zEn} (hC : zpC μ p L) (hR : zpR μ p L) (hok : zlok N L) (hw : μ 140 p = μ (zbP p) 2 ∧ -1 ≤ μ (zbP p) 2 ∧ μ (zbP p) 2 < W) : zPp μ N W p := by
  obtain ⟨c1, c2⟩ := hC
  obtain ⟨r1, r2⟩ := hR
  obtain ⟨o1, o2, o3⟩ := hok
  refine ⟨⟨by omega, by omega, by omega⟩, hw, fun k k0 k1 => ?_, fun k l k0 k1 k2 => ?_⟩
  · obtain ⟨n, rfl⟩ : ∃ n : Nat, k = n := ⟨k.toNat, by omega⟩
    obtain ⟨e, he⟩ := zgetE (L := L) (k := n) (by omega)
    obtain ⟨a1, a2, a3, a4⟩ := c2 n e he
    obtain ⟨b1, b2, b3, b4⟩ := r2 n e he
    have := o2 e (List.mem_of_getElem? he)
    rw [a1, a2, a3, a4]
    exact ⟨b1, b2, b3, b4, this⟩
  · obtain ⟨n, rfl⟩ : ∃ n : Nat, k = n := ⟨k.toNat, by omega⟩
    obtain ⟨m, rfl⟩ : ∃ m : Nat, l = m := ⟨l.toNat, by omega⟩
    obtain ⟨e, he⟩ := zgetE (L := L) (k := n) (by omega)
    obtain ⟨e', he'⟩ := zgetE (L := L) (k := m) (by omega)
    rw [(c2 n e he).1, (c2 m e' he').1]
    obtain ⟨q1, q2⟩ := List.getElem?_eq_some_iff.mp he
    obtain ⟨q3, q4⟩ := List.getElem?_eq_some_iff.mp he'
    have := List.pairwise_iff_getElem.mp o3 n m q1 q3 (by omega)
    rw [q2, q4] at this
    exact this
def zLs (μ : zMem) (p : Int) : List zEn := (List.range (μ (zbP p) 1).toNat).map (fun (k : Nat) => (μ (zbP p + 2) (k : Int), μ (zbP p + 2 + 1) (k : Int), μ (zbP p + 2 + 2) (k : Int), μ (zbP p + 2 + 3) (k : Int)))
set_option maxHeartbeats 400000 in
theorem zLs_len {μ : zMem} {p : Int} : (zLs μ p).length = (μ (zbP p) 1).toNat := by
  unfold zLs
  rw [List.length_map, List.length_range]
set_option maxHeartbeats 400000 in
theorem zLs_get {μ : zMem} {p : Int} {k : Nat} {e : zEn} (h : (zLs μ p)[k]? = some e) : k < (μ (zbP p) 1).toNat ∧ e = (μ (zbP p + 2) (k : Int), μ (zbP p + 2 + 1) (k : Int), μ (zbP p + 2 + 2) (k : Int), μ (zbP p + 2 + 3) (k : Int)) := by
  have h1 := zgetL h
  rw [zLs_len] at h1
  refine ⟨h1, ?_⟩
  unfold zLs at h
  rw [List.getElem?_map, List.getElem?_range h1] at h
  exact (Option.some.inj h).symm
set_option maxHeartbeats 400000 in
theorem zPp_L {μ : zMem} {N W p : Int} (h : zPp μ N W p) : zpC μ p (zLs μ p) ∧ zpR μ p (zLs μ p) ∧ zlok N (zLs μ p) ∧ (μ 140 p = μ (zbP p) 2 ∧ -1 ≤ μ (zbP p) 2 ∧ μ (zbP p) 2 < W) := by
  obtain ⟨⟨a1, a2, a3⟩, b, c, d⟩ := h
  have hl : ((zLs μ p).length : Int) = μ (zbP p) 1 := by rw [zLs_len]; omega
  refine ⟨⟨hl.symm, fun k e he => ?_⟩, ⟨a3.trans hl.symm, fun k e he => ?_⟩, ⟨by omega, fun e he => ?_, ?_⟩, b⟩
  · obtain ⟨h1, rfl⟩ := zLs_get he
    exact ⟨rfl, rfl, rfl, rfl⟩
  · obtain ⟨h1, rfl⟩ := zLs_get he
    obtain ⟨q1, q2, q3, q4, -⟩ := c k (by omega) (by omega)
    exact ⟨q1, q2, q3, q4⟩
  · obtain ⟨k, hk⟩ := List.mem_iff_getElem?.mp he
    obtain ⟨h1, rfl⟩ := zLs_get hk
    exact (c k (by omega) (by omega)).2.2.2.2
  · rw [List.pairwise_iff_getElem]
    intro i j hi hj hij
    have e1 := zLs_get (List.getElem?_eq_getElem hi)
    have e2 := zLs_get (List.getElem?_eq_getElem hj)
    rw [e1.2, e2.2]
    exact d i j (by omega) (by omega) (by omega)
/-! ### what may change -/
def zoC (p : Int) (μ μ' : zMem) : Prop := ∀ a j : Int, ¬ (a = zbP p ∧ j = 1) → ¬ (zbP p + 2 ≤ a ∧ a ≤ zbP p + 5) → μ' a j = μ a j
def zoR (p : Int) (μ μ' : zMem) : Prop := ∀ a j : Int, ¬ (a = 141 ∧ j = p) → ¬ (142 ≤ a ∧ a ≤ 145 ∧ 16 * p ≤ j ∧ j < 16 * p + 16) → μ' a j = μ a j
set_option maxHeartbeats 400000 in
theorem zoC_r {p : Int} {μ : zMem} : zoC p μ μ := fun _ _ _ _ => rfl
set_option maxHeartbeats 400000 in
theorem zoR_r {p : Int} {μ : zMem} : zoR p μ μ := fun _ _ _ _ => rfl
set_option maxHeartbeats 400000 in
theorem zoC_t {p : Int} {μ μ' μ'' : zMem} (h : zoC p μ μ') (h' : zoC p μ' μ'') : zoC p μ μ'' := fun a j q1 q2 => (h' a j q1 q2).trans (h a j q1 q2)
set_option maxHeartbeats 400000 in
theorem zoR_t {p : Int} {μ μ' μ'' : zMem} (h : zoR p μ μ') (h' : zoR p μ' μ'') : zoR p μ μ'' := fun a j q1 q2 => (h' a j q1 q2).trans (h a j q1 q2)
set_option maxHeartbeats 400000 in
theorem zrf_P {p : Int} (h0 : 0 ≤ p) (h1 : p < 10) : zrfs (zbP p) 1 = false := by
  rcases znat10 h0 h1 with rfl | rfl | rfl | rfl | rfl | rfl | rfl | rfl | rfl | rfl <;> rfl
set_option maxHeartbeats 400000 in
theorem zrf_Pr {p a j : Int} (h0 : 0 ≤ p) (h1 : p < 10) (h2 : zbP p + 2 ≤ a) (h3 : a ≤ zbP p + 5) : zrfs a j = false := by
  obtain ⟨w, hw⟩ : ∃ w : Int, a = zbP p + 2 + w := ⟨a - (zbP p + 2), by omega⟩
  have e := shPr h0 h1 (w := w) (by omega) (by omega)
  have h5 : ¬ a < 5 := by unfold zbP at h2; omega
  rw [← hw] at e
  unfold zrfs
  rw [e]
  simp [h5]
set_option maxHeartbeats 400000 in
theorem zoC_G0 {p : Int} {μ μ' : zMem} (h0 : 0 ≤ p) (h1 : p < 10) (h : zoC p μ μ') (hG : zG0 μ) : zG0 μ' := zG0_keep hG (fun a j hr => h a j (fun q => by
    rw [q.1, q.2, zrf_P h0 h1] at hr
    cases hr) (fun q => by
    rw [zrf_Pr h0 h1 q.1 q.2] at hr
    cases hr))
set_option maxHeartbeats 400000 in
theorem zrf_R {a j : Int} (h2 : 140 ≤ a) (h3 : a ≤ 145) : zrfs a j = false := by
  rcases (show a = 140 ∨ a = 141 ∨ a = 142 ∨ a = 143 ∨ a = 144 ∨ a = 145 by omega) with rfl | rfl | rfl | rfl | rfl | rfl <;> rfl
set_option maxHeartbeats 400000 in
theorem zoR_G0 {p : Int} {μ μ' : zMem} (h : zoR p μ μ') (hG : zG0 μ) : zG0 μ' := zG0_keep hG (fun a j hr => h a j (fun q => by
    rw [zrf_R (by omega) (by omega)] at hr
    cases hr) (fun q => by
    rw [zrf_R (by omega) (by omega)] at hr
    cases hr))
/-! ### rows under changes -/
set_option maxHeartbeats 400000 in
theorem zrow_to {r0 r1 r2 r3 r0' r1' r2' r3' : Int → Int} {L : List zEn} (h : zrow r0 r1 r2 r3 L) (h0 : ∀ k : Nat, k < L.length → r0' k = r0 k ∧ r1' k = r1 k ∧ r2' k = r2 k ∧ r3' k = r3 k) : zrow r0' r1' r2' r3' L := fun k e he => by
  obtain ⟨a, b, c, d⟩ := h0 k (zgetL he)
  rw [a, b, c, d]
  exact h k e he
set_option maxHeartbeats 400000 in
theorem zpC_R {μ μ' : zMem} {p : Int} {L : List zEn} (h : zpC μ p L) (hf : zoR p μ μ') (h0 : 0 ≤ p) (h1 : p < 10) : zpC μ' p L := by
  have hz : zbP p = 53 + 6 * p := rfl
  refine ⟨(hf _ _ (by omega) (by omega)).trans h.1, zrow_to h.2 (fun k _ => ⟨hf _ _ (by omega) (by omega), hf _ _ (by omega) (by omega), hf _ _ (by omega) (by omega), hf _ _ (by omega) (by omega)⟩)⟩
set_option maxHeartbeats 400000 in
theorem zpR_C {μ μ' : zMem} {p : Int} {L : List zEn} (h : zpR μ p L) (hf : zoC p μ μ') (h0 : 0 ≤ p) (h1 : p < 10) : zpR μ' p L := by
  have hz : zbP p = 53 + 6 * p := rfl
  refine ⟨(hf _ _ (by omega) (by omega)).trans h.1, zrow_to h.2 (fun k _ => ⟨hf _ _ (by omega) (by omega), hf _ _ (by omega) (by omega), hf _ _ (by omega) (by omega), hf _ _ (by omega) (by omega)⟩)⟩
def zmv (f t : Int) (r : Int → Int) : Int → Int := fun j => if j = t then r f else if f < t ∧ f ≤ j ∧ j < t then r (j + 1) else if t < f ∧ t < j ∧ j ≤ f then r (j - 1) else r j
set_option maxHeartbeats 400000 in
theorem zmv_at {f t : Int} {r : Int → Int} : zmv f t r t = r f := if_pos rfl
set_option maxHeartbeats 400000 in
theorem zmv_up {f t j : Int} {r : Int → Int} (h : f ≤ j) (h' : j < t) : zmv f t r j = r (j + 1) := by
  unfold zmv
  rw [if_neg (by omega), if_pos (by omega)]
set_option maxHeartbeats 400000 in
theorem zmv_dn {f t j : Int} {r : Int → Int} (h : t < j) (h' : j ≤ f) : zmv f t r j = r (j - 1) := by
  unfold zmv
  rw [if_neg (by omega), if_neg (by omega), if_pos (by omega)]
set_option maxHeartbeats 400000 in
theorem zmv_lo {f t j : Int} {r : Int → Int} (h : j < f) (h' : j < t) : zmv f t r j = r j := by
  unfold zmv
  rw [if_neg (by omega), if_neg (by omega), if_neg (by omega)]
set_option maxHeartbeats 400000 in
theorem zmv_hi {f t j : Int} {r : Int → Int} (h : f < j) (h' : t < j) : zmv f t r j = r j := by
  unfold zmv
  rw [if_neg (by omega), if_neg (by omega), if_neg (by omega)]
set_option maxHeartbeats 400000 in
theorem zrow_mv {r0 r1 r2 r3 : Int → Int} {L : List zEn} (h : zrow r0 r1 r2 r3 L) {f t : Nat} {e : zEn} (he : L[f]? = some e) (ht : t < L.length) : zrow (zmv f t r0) (zmv f t r1) (zmv f t r2) (zmv f t r3) ((L.eraseIdx f).insertIdx t e) := fun k e' hk => by
  have hf := zgetL he
  rw [List.getElem?_insertIdx] at hk
  by_cases c1 : k < t
  · rw [if_pos c1, List.getElem?_eraseIdx] at hk
    by_cases c2 : k < f
    · rw [if_pos c2] at hk
      rw [zmv_lo (by omega) (by omega), zmv_lo (by omega) (by omega), zmv_lo (by omega) (by omega), zmv_lo (by omega) (by omega)]
      exact h k e' hk
    · rw [if_neg c2] at hk
      rw [zmv_up (by omega) (by omega), zmv_up (by omega) (by omega), zmv_up (by omega) (by omega), zmv_up (by omega) (by omega)]
      have := h (k + 1) e' hk
      rw [show ((k + 1 : Nat) : Int) = (k : Int) + 1 by omega] at this
      exact this
  · rw [if_neg c1] at hk
    by_cases c2 : k = t
    · rw [if_pos c2] at hk
      have hl : k ≤ (L.eraseIdx f).length := by rw [List.length_eraseIdx_of_lt hf]; omega
      rw [if_pos hl] at hk
      rw [← Option.some.inj hk, c2, zmv_at, zmv_at, zmv_at, zmv_at]
      exact h f e he
    · rw [if_neg c2, List.getElem?_eraseIdx] at hk
      by_cases c3 : k - 1 < f
      · rw [if_pos c3] at hk
        rw [zmv_dn (by omega) (by omega), zmv_dn (by omega) (by omega), zmv_dn (by omega) (by omega), zmv_dn (by omega) (by omega)]
        have := h (k - 1) e' hk
        rw [show ((k - 1 : Nat) : Int) = (k : Int) - 1 by omega] at this
        exact this
      · rw [if_neg c3, show k - 1 + 1 = k by omega] at hk
        rw [zmv_hi (by omega) (by omega), zmv_hi (by omega) (by omega), zmv_hi (by omega) (by omega), zmv_hi (by omega) (by omega)]
        exact h k e' hk
set_option maxHeartbeats 400000 in
theorem zrow_er {r0 r1 r2 r3 r0' r1' r2' r3' : Int → Int} {L : List zEn} (h : zrow r0 r1 r2 r3 L) {i : Nat} (hlo : ∀ k : Nat, k < i → k + 1 < L.length → r0' k = r0 k ∧ r1' k = r1 k ∧ r2' k = r2 k ∧ r3' k = r3 k)
    (hhi : ∀ k : Nat, i ≤ k → k + 1 < L.length → r0' k = r0 ((k : Int) + 1) ∧ r1' k = r1 ((k : Int) + 1) ∧ r2' k = r2 ((k : Int) + 1) ∧ r3' k = r3 ((k : Int) + 1)) (hi : i < L.length) : zrow r0' r1' r2' r3' (L.eraseIdx i) := fun k e hk => by
  have hl := zgetL hk
  rw [List.length_eraseIdx_of_lt hi] at hl
  rw [List.getElem?_eraseIdx] at hk
  by_cases c : k < i
  · rw [if_pos c] at hk
    obtain ⟨a, b, c, d⟩ := hlo k c (by omega)
    rw [a, b, c, d]
    exact h k e hk
  · rw [if_neg c] at hk
    obtain ⟨a, b, c, d⟩ := hhi k (by omega) (by omega)
    rw [a, b, c, d]
    have := h (k + 1) e hk
    rw [show ((k + 1 : Nat) : Int) = (k : Int) + 1 by omega] at this
    exact this
set_option maxHeartbeats 400000 in
theorem zrow_ap {r0 r1 r2 r3 r0' r1' r2' r3' : Int → Int} {L : List zEn} (h : zrow r0 r1 r2 r3 L) {e : zEn} (hlo : ∀ k : Nat, k < L.length → r0' k = r0 k ∧ r1' k = r1 k ∧ r2' k = r2 k ∧ r3' k = r3 k)
    (he : r0' L.length = e.1 ∧ r1' L.length = e.2.1 ∧ r2' L.length = e.2.2.1 ∧ r3' L.length = e.2.2.2) : zrow r0' r1' r2' r3' (L ++ [e]) := fun k e' hk => by
  rw [List.getElem?_append] at hk
  by_cases c : k < L.length
  · rw [if_pos c] at hk
    obtain ⟨a, b, c, d⟩ := hlo k c
    rw [a, b, c, d]
    exact h k e' hk
  · rw [if_neg c] at hk
    have hl := (List.getElem?_eq_some_iff.mp hk).1
    have hk0 : k = L.length := by simp at hl; omega
    subst hk0
    rw [Nat.sub_self] at hk
    rw [← Option.some.inj hk]
    exact he
set_option maxHeartbeats 400000 in
theorem zrow_st {r0 r1 r2 r3 r0' r1' r2' r3' : Int → Int} {L : List zEn} (h : zrow r0 r1 r2 r3 L) {i : Nat} {e : zEn} (hlo : ∀ k : Nat, k ≠ i → k < L.length → r0' k = r0 k ∧ r1' k = r1 k ∧ r2' k = r2 k ∧ r3' k = r3 k)
    (he : r0' i = e.1 ∧ r1' i = e.2.1 ∧ r2' i = e.2.2.1 ∧ r3' i = e.2.2.2) : zrow r0' r1' r2' r3' (L.set i e) := fun k e' hk => by
  rw [List.getElem?_set] at hk
  by_cases c : i = k
  · subst c
    rw [if_pos rfl] at hk
    by_cases c2 : i < L.length
    · rw [if_pos c2] at hk
      rw [← Option.some.inj hk]
      exact he
    · rw [if_neg c2] at hk
      cases hk
  · rw [if_neg c] at hk
    obtain ⟨a, b, c, d⟩ := hlo k (fun q => c q.symm) (zgetL hk)
    rw [a, b, c, d]
    exact h k e' hk
