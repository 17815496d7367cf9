/-! ===== the class's reckoner: the loop over the codes ===== -/
def zWF (w : Int) (k6 : Int → Int → zMem → zRs) (v3 : Int) (v4 : Int) (u5 : zMem) : zRs := zvc 4 (zbL w) (fX4_size (zbL w) u5) (fun v7 u8 => if v4 ≥ v7 then (some (0, u8)) else (zvc 4 (zbL w) (fX4_codeAt (zbL w) v4 u8) (fun v9 u10 => zjn (fun (v11 : Int) (u12 : zMem) => k6 v11 (zw32 (v4 + 1)) u12) (fun k13 => if v3 = 0 then (if v9 ≠ 10059 then (if v9 ≠ 10063 then (zvc 7 23 (fX7_valueOf 23 v9 u10) (fun v14 u15 => zvc 7 23 (fX7_push 23 v14 u15) (fun _ u16 => k13 v3 u16))) else (zvc 7 23 (fX7_pop 23 u10) (fun v17 u18 => zjn (fun (v19 : Int) (u20 : zMem) => k13 v19 u20) (fun k21 => if v17 ≠ 0 then (k21 0 u18) else (k21 1 u18))))) else (zvc 7 23 (fX7_pop 23 u10) (fun v22 u23 => some (v22, u23)))) else (zjn (fun (v24 : Int) (u25 : zMem) => k13 v24 u25) (fun k26 => if v9 = 10059 then (k26 0 u10) else (k26 1 u10)))))))
def zWb : Int → Int → zMem → zRs := fun _ _ _ => none
/-- the codes of a writer -/
def zcv (u : zMem) (w : Int) (C : List Int) : Prop := u (zbL w) 1 = C.length ∧ C.length ≤ 121 ∧ ∀ (k : Nat) (c : Int), C[k]? = some c → u (zbL w + 1) k = c
set_option maxHeartbeats 400000 in
theorem zcv_W {u v : zMem} {w : Int} {C : List Int} (w0 : 0 ≤ w) (h : zcv u w C) (k : zoW u v) : zcv v w C := by
  have hz : zbL w = 26 + 2 * w := rfl
  exact ⟨(k _ _ (by omega) (by omega)).trans h.1, h.2.1, fun j c hj => (k _ _ (by omega) (by omega)).trans (h.2.2 j c hj)⟩
set_option maxHeartbeats 400000 in
theorem s4_size {u : zMem} {w : Int} (w0 : 0 ≤ w) (w1 : w < 4) : fX4_size (zbL w) u = some (u (zbL w) 1, u) := by
  unfold fX4_size
  rw [gfL w0 w1]
  rfl
set_option maxHeartbeats 400000 in
theorem s4_codeAt {u : zMem} {w : Int} (hG : zG0 u) (w0 : 0 ≤ w) (w1 : w < 4) {C : List Int} (h : zcv u w C) {i : Nat} {c : Int} (hi : C[i]? = some c) : fX4_codeAt (zbL w) i u = some (c, u) := by
  have hl : i < C.length := (List.getElem?_eq_some_iff.mp hi).1
  have e := h.2.2 i c hi
  have h1 := h.1
  have h2 := h.2.1
  have c1 : ¬ (i : Int) < 0 := by omega
  have c2 : ¬ (i : Int) ≥ C.length := by omega
  unfold fX4_codeAt
  rw [zjn_ok, if_neg c1, gfL w0 w1, show ((1 : Nat) : Int) = 1 from rfl, h1, if_neg c2, gqL hG w0 w1, alL w0 w1 (by omega) (by omega), e]
set_option maxHeartbeats 400000 in
theorem zWF_at {u : zMem} {w : Int} (hG : zG0 u) (w0 : 0 ≤ w) (w1 : w < 4) {C : List Int} (h : zcv u w C) {i : Nat} {c : Int} (hi : C[i]? = some c) (f : Int → Int → zMem → zRs) (v3 : Int) : zWF w f v3 i u = zjn (fun (v11 : Int) (u12 : zMem) => f v11 ((i + 1 : Nat) : Int) u12) (fun k13 => if v3 = 0 then (if c ≠ 10059 then (if c ≠ 10063 then (zvc 7 23 (fX7_valueOf 23 c u) (fun v14 u15 => zvc 7 23 (fX7_push 23 v14 u15) (fun _ u16 => k13 v3 u16))) else (zvc 7 23 (fX7_pop 23 u) (fun v17 u18 => zjn (fun (v19 : Int) (u20 : zMem) => k13 v19 u20) (fun k21 => if v17 ≠ 0 then (k21 0 u18) else (k21 1 u18))))) else (zvc 7 23 (fX7_pop 23 u) (fun v22 u23 => some (v22, u23)))) else (zjn (fun (v24 : Int) (u25 : zMem) => k13 v24 u25) (fun k26 => if c = 10059 then (k26 0 u) else (k26 1 u)))) := by
  have hl : i < C.length := (List.getElem?_eq_some_iff.mp hi).1
  have h1 := h.1
  have h2 := h.2.1
  have c2 : ¬ (i : Int) ≥ C.length := by omega
  have hw : zw32 ((i : Int) + 1) = ((i + 1 : Nat) : Int) := by rw [zw32_id (by omega) (by omega)]; rfl
  unfold zWF
  rw [vcL_of w0 w1 (s4_size w0 w1), h1, if_neg c2, vcL_of w0 w1 (s4_codeAt hG w0 w1 h hi), hw]
set_option maxHeartbeats 400000 in
theorem zWF_0 {u : zMem} {w : Int} (hG : zG0 u) (w0 : 0 ≤ w) (w1 : w < 4) {C : List Int} (h : zcv u w C) {i : Nat} {c : Int} (hi : C[i]? = some c) {S S' : List Int} (hst : zst u S) (hc : c ≠ 10059 ∧ c ≠ 10063 ∧ c < 20000) (hx : zx1 (u 24) c S = some S') : ∃ u', zoW u u' ∧ zst u' S' ∧ ∀ f, zWF w f 0 i u = f 0 ((i + 1 : Nat) : Int) u' := by
  obtain ⟨u', p1, p2, p3⟩ := s7_one hG hst hc.2.2 hx
  refine ⟨u', p1, p2, fun f => ?_⟩
  rw [zWF_at hG w0 w1 h hi, zjn_ok, if_pos rfl, if_pos hc.1, if_pos hc.2.1]
  exact p3 _
set_option maxHeartbeats 400000 in
theorem zWF_e {u : zMem} {w : Int} (hG : zG0 u) (w0 : 0 ≤ w) (w1 : w < 4) {C : List Int} (h : zcv u w C) {i : Nat} (hi : C[i]? = some 10059) {S : List Int} (hst : zst u S) : ∃ u', zoW u u' ∧ ∀ f, zWF w f 0 i u = some (zxh S, u') := by
  obtain ⟨u', p1, p2, p3⟩ := s7_pop hG hst
  refine ⟨u', p3, fun f => ?_⟩
  rw [zWF_at hG w0 w1 h hi, zjn_ok, if_pos rfl, if_neg (fun q => q rfl), vq_23 p1]
set_option maxHeartbeats 400000 in
theorem zWF_q {u : zMem} {w : Int} (hG : zG0 u) (w0 : 0 ≤ w) (w1 : w < 4) {C : List Int} (h : zcv u w C) {i : Nat} (hi : C[i]? = some 10063) {S : List Int} (hst : zst u S) : ∃ u', zoW u u' ∧ zst u' S.tail ∧ ∀ f, zWF w f 0 i u = f (if zxh S = 0 then 1 else 0) ((i + 1 : Nat) : Int) u' := by
  obtain ⟨u', p1, p2, p3⟩ := s7_pop hG hst
  refine ⟨u', p3, p2, fun f => ?_⟩
  rw [zWF_at hG w0 w1 h hi, zjn_ok, if_pos rfl, if_pos (by decide), if_neg (fun q => q rfl), vq_23 p1, zjn_ok]
  by_cases z : zxh S = 0
  · rw [if_neg (fun q => q z), if_pos z]
  · rw [if_pos z, if_neg z]
set_option maxHeartbeats 400000 in
theorem zWF_1 {u : zMem} {w : Int} (hG : zG0 u) (w0 : 0 ≤ w) (w1 : w < 4) {C : List Int} (h : zcv u w C) {i : Nat} {c : Int} (hi : C[i]? = some c) (f : Int → Int → zMem → zRs) : zWF w f 1 i u = f (if c = 10059 then 0 else 1) ((i + 1 : Nat) : Int) u := by
  rw [zWF_at hG w0 w1 h hi, zjn_ok, if_neg (by decide), zjn_ok]
  by_cases z : c = 10059
  · rw [if_pos z, if_pos z]
  · rw [if_neg z, if_neg z]
/-- a run of codes in its place -/
def zsgm (C cs : List Int) (i : Nat) : Prop := ∀ (k : Nat) (c : Int), cs[k]? = some c → C[i + k]? = some c
set_option maxHeartbeats 400000 in
theorem zsgm_l {C cs ds : List Int} {i : Nat} (h : zsgm C (cs ++ ds) i) : zsgm C cs i := fun k c hk => h k c (by
  rw [List.getElem?_append_left (List.getElem?_eq_some_iff.mp hk).1]; exact hk)
set_option maxHeartbeats 400000 in
theorem zsgm_r {C cs ds : List Int} {i : Nat} (h : zsgm C (cs ++ ds) i) : zsgm C ds (i + cs.length) := fun k c hk => by
  rw [Nat.add_assoc]
  exact h _ c (by rw [List.getElem?_append_right (by omega), show cs.length + k - cs.length = k by omega]; exact hk)
set_option maxHeartbeats 400000 in
theorem zsgm_h {C cs : List Int} {c : Int} {i : Nat} (h : zsgm C (c :: cs) i) : C[i]? = some c := h 0 c rfl
set_option maxHeartbeats 400000 in
theorem zsgm_t {C cs : List Int} {c : Int} {i : Nat} (h : zsgm C (c :: cs) i) : zsgm C cs (i + 1) := fun k d hk => by
  have := h (k + 1) d hk
  rw [show i + (k + 1) = i + 1 + k by omega] at this
  exact this
def zcok (c : Int) : Prop := c ≠ 10059 ∧ c ≠ 10063 ∧ c < 20000
set_option maxHeartbeats 400000 in
theorem s7_run {w : Int} (w0 : 0 ≤ w) (w1 : w < 4) {C : List Int} {nm : Int → Int} : ∀ (cs : List Int) (i m : Nat) (u : zMem) (S S' : List Int), zG0 u → zcv u w C → u 24 = nm → zst u S → zsgm C cs i → (∀ c ∈ cs, zcok c) → zex nm cs S = some S' → ∃ u', zoW u u' ∧ zst u' S' ∧ zlp zWb (zWF w) (cs.length + m) 0 i u = zlp zWb (zWF w) m 0 ((i + cs.length : Nat) : Int) u'
  | [], i, m, u, S, S', hG, hC, hn, hst, hsg, hok, hx => by
    cases hx
    refine ⟨u, zoW_r, hst, ?_⟩
    rw [List.length_nil, Nat.zero_add, Nat.add_zero]
  | c :: cs, i, m, u, S, S', hG, hC, hn, hst, hsg, hok, hx => by
    have hx' : (zx1 nm c S).bind (zex nm cs) = some S' := hx
    cases e : zx1 nm c S with
    | none => rw [e] at hx'; cases hx'
    | some S1 =>
      rw [e] at hx'
      have hx2 : zex nm cs S1 = some S' := hx'
      obtain ⟨u1, p1, p2, p3⟩ := zWF_0 hG w0 w1 hC (zsgm_h hsg) hst (hok c (List.mem_cons_self ..)) (by rw [hn]; exact e)
      have hn1 : u1 24 = nm := (funext (fun j => p1 24 j (by omega) (by decide))).trans hn
      obtain ⟨u2, q1, q2, q3⟩ := s7_run w0 w1 cs (i + 1) m u1 S1 S' (zoW_G0 p1 hG) (zcv_W w0 hC p1) hn1 p2 (zsgm_t hsg) (fun d hd => hok d (List.mem_cons_of_mem _ hd)) hx2
      refine ⟨u2, zoW_t p1 q1, q2, ?_⟩
      rw [List.length_cons, show cs.length + 1 + m = cs.length + m + 1 by omega, zlp_S, p3, q3, show i + 1 + cs.length = i + (cs.length + 1) by omega]
set_option maxHeartbeats 400000 in
theorem s7_skip {w : Int} (w0 : 0 ≤ w) (w1 : w < 4) {C : List Int} {u : zMem} (hG : zG0 u) (hC : zcv u w C) : ∀ (cs : List Int) (i m : Nat), zsgm C (cs ++ [10059]) i → (∀ c ∈ cs, zcok c) → zlp zWb (zWF w) (cs.length + 1 + m) 1 i u = zlp zWb (zWF w) m 0 ((i + cs.length + 1 : Nat) : Int) u
  | [], i, m, hsg, hok => by
    rw [List.length_nil, show 0 + 1 + m = m + 1 by omega, zlp_S, zWF_1 hG w0 w1 hC (zsgm_h hsg), if_pos rfl, Nat.add_zero]
  | c :: cs, i, m, hsg, hok => by
    have ih := s7_skip w0 w1 hG hC cs (i + 1) m (zsgm_t hsg) (fun d hd => hok d (List.mem_cons_of_mem _ hd))
    rw [List.length_cons, show cs.length + 1 + 1 + m = cs.length + 1 + m + 1 by omega, zlp_S, zWF_1 hG w0 w1 hC (zsgm_h hsg), if_neg (hok c (List.mem_cons_self ..)).1, ih, show i + 1 + cs.length + 1 = i + (cs.length + 1) + 1 by omega]
