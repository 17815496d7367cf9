/-! ===== take: soften, decisions last ===== -/
def zSo (e : zEn) : zEn := if e.2.1 = 2 then (e.1, 0, e.2.2.1, e.2.2.2) else e
set_option maxHeartbeats 400000 in
theorem zSo_t {e : zEn} (h : e.2.1 = 2) : zSo e = (e.1, 0, e.2.2.1, e.2.2.2) := if_pos h
set_option maxHeartbeats 400000 in
theorem zSo_f {e : zEn} (h : ¬ e.2.1 = 2) : zSo e = e := if_neg h
set_option maxHeartbeats 400000 in
theorem zSo_1 (e : zEn) : (zSo e).1 = e.1 := by
  by_cases h : e.2.1 = 2
  · rw [zSo_t h]
  · rw [zSo_f h]
set_option maxHeartbeats 400000 in
theorem zSo_ok {N : Int} {e : zEn} (h : zeok N e) : zeok N (zSo e) := by
  by_cases c : e.2.1 = 2
  · rw [zSo_t c]
    exact ⟨h.1, ⟨(by decide : (0 : Int) ≤ 0), (by decide : (0 : Int) ≤ 3)⟩, h.2.2⟩
  · rw [zSo_f c]
    exact h
set_option maxHeartbeats 400000 in
theorem zlok_So {N : Int} {L : List zEn} (h : zlok N L) : zlok N (L.map zSo) := by
  obtain ⟨h1, h2, h3⟩ := h
  refine ⟨by rw [List.length_map]; exact h1, fun e he => ?_, ?_⟩
  · obtain ⟨a, ha, rfl⟩ := List.mem_map.mp he
    exact zSo_ok (h2 a ha)
  · rw [List.pairwise_map]
    exact h3.imp (fun {a b} q => by rw [zSo_1, zSo_1]; exact q)
set_option maxHeartbeats 400000 in
theorem zSo_mid {A B : List zEn} {e : zEn} : (A ++ [e]).map zSo ++ B = A.map zSo ++ zSo e :: B := by
  rw [List.map_append, List.append_assoc]
  rfl
set_option maxHeartbeats 400000 in
theorem c_soften {u0 : zMem} (hG : zG0 u0) {p : Int} (h0 : 0 ≤ p) (h1 : p < 10) {L : List zEn} (hC : zpC u0 p L) (h16 : L.length ≤ 16) : ∃ u', fX6_soften (zbP p) u0 = some (0, u') ∧ zpC u' p (L.map zSo) ∧ zoC p u0 u' := by
  have hz : zbP p = 53 + 6 * p := rfl
  rw [eX6_soften]
  have go : ∃ r u', lX6_soften_1 (zbP p) 0 u0 = some (r, u') ∧ (r = 0 ∧ zpC u' p (L.map zSo) ∧ zoC p u0 u') := by
    unfold lX6_soften_1
    refine zli1 (fun n a u => ∃ A B, L = A ++ B ∧ A.length = n ∧ a = (n : Int) ∧ zpC u p (A.map zSo ++ B) ∧ zoC p u0 u) L.length (by omega) (fun k n a u hn hI => ?_) (fun k a u hI => ?_) ⟨[], L, rfl, rfl, rfl, hC, zoC_r⟩
    · obtain ⟨A, B, i1, i2, i3, i4, i5⟩ := hI
      have hAl : L.length = A.length + B.length := by rw [i1, List.length_append]
      cases B with
      | nil =>
        have : ([] : List zEn).length = 0 := rfl
        omega
      | cons e B =>
      have hl : (A.map zSo).length = n := by rw [List.length_map, i2]
      have hGu := zoC_G0 h0 h1 i5 hG
      have hat : (A.map zSo ++ e :: B)[n]? = some e := by rw [← hl]; exact zat_mid
      have f1 : u (zbP p + 2 + 1) n = e.2.1 := (i4.2 n e hat).2.1
      have hsz : u (zbP p) 1 = (L.length : Int) := by
        rw [i4.1, List.length_append, hl, hAl, i2]
      have c1 : ¬ (n : Int) ≥ (L.length : Int) := by omega
      have n0 : (0 : Int) ≤ n := by omega
      have n16 : (n : Int) < 16 := by omega
      have i1' : L = (A ++ [e]) ++ B := by rw [i1, List.append_assoc]; rfl
      have i2' : (A ++ [e]).length = n + 1 := by rw [List.length_append, i2]; rfl
      have hup : Unit → zw32 (((n : Nat) : Int) + 1) = ((n + 1 : Nat) : Int) := fun _ => zupn (by omega)
      subst i3
      by_cases q : e.2.1 = 2
      · obtain ⟨d2, d3⟩ := c_set i4 hat (w := 1) (v := 0) (by decide) (by decide)
        rw [← hl, zset_mid, hl] at d2
        refine ⟨((n + 1 : Nat) : Int), _, ⟨A ++ [e], B, i1', i2', rfl, by rw [zSo_mid, zSo_t q]; exact d2, zoC_t i5 d3⟩, ?_⟩
        show zgf 6 1 (zbP p) u _ = _
        rw [gfP h0 h1, show ((1 : Nat) : Int) = 1 from rfl, hsz, if_neg c1, gqP hGu h0 h1, aqPe hGu h0 h1 (by decide) (by decide), alPr h0 h1 (by decide) (by decide) n0 n16, f1, zjn_ok, if_neg (fun z => z q), gqP hGu h0 h1, aqPe hGu h0 h1 (by decide) (by decide), asPr h0 h1 (by decide) (by decide) n0 n16, hup ()]
      · refine ⟨((n + 1 : Nat) : Int), u, ⟨A ++ [e], B, i1', i2', rfl, by rw [zSo_mid, zSo_f q]; exact i4, i5⟩, ?_⟩
        show zgf 6 1 (zbP p) u _ = _
        rw [gfP h0 h1, show ((1 : Nat) : Int) = 1 from rfl, hsz, if_neg c1, gqP hGu h0 h1, aqPe hGu h0 h1 (by decide) (by decide), alPr h0 h1 (by decide) (by decide) n0 n16, f1, zjn_ok, if_pos q, hup ()]
    · obtain ⟨A, B, i1, i2, i3, i4, i5⟩ := hI
      have hAl : L.length = A.length + B.length := by rw [i1, List.length_append]
      have hB : B = [] := List.length_eq_zero_iff.mp (by omega)
      subst hB
      rw [List.append_nil] at i1 i4
      subst i1
      have hsz : u (zbP p) 1 = (L.length : Int) := by rw [i4.1, List.length_map]
      refine ⟨0, u, ?_, rfl, i4, i5⟩
      rw [gfP h0 h1, show ((1 : Nat) : Int) = 1 from rfl, hsz, i3, if_pos (Int.le_refl _)]
  obtain ⟨r, u', g1, rfl, g2, g3⟩ := go
  exact ⟨u', g1, g2, g3⟩
set_option maxHeartbeats 400000 in
theorem r_soften {u0 : zMem} (hG : zG0 u0) {p : Int} (h0 : 0 ≤ p) (h1 : p < 10) {L : List zEn} (hR : zpR u0 p L) (h16 : L.length ≤ 16) : ∃ u', fX11_softensAll 129 p u0 = some (0, u') ∧ zpR u' p (L.map zSo) ∧ zoR p u0 u' := by
  have hst : Unit → zw32 (16 * p) = 16 * p + ((0 : Nat) : Int) := fun _ => by
    rw [zw32_id (by omega) (by omega)]
    exact (Int.add_zero _).symm
  have go : ∃ r u', lX11_softensAll_1 129 p (16 * p + ((0 : Nat) : Int)) u0 = some (r, u') ∧ (r = 0 ∧ zpR u' p (L.map zSo) ∧ zoR p u0 u') := by
    clear hst
    unfold lX11_softensAll_1
    refine zli1 (fun n a u => ∃ A B, L = A ++ B ∧ A.length = n ∧ a = 16 * p + (n : Int) ∧ zpR u p (A.map zSo ++ B) ∧ zoR p u0 u) L.length (by omega) (fun k n a u hn hI => ?_) (fun k a u hI => ?_) ⟨[], L, rfl, rfl, rfl, hR, zoR_r⟩
    · obtain ⟨A, B, i1, i2, i3, i4, i5⟩ := hI
      have hAl : L.length = A.length + B.length := by rw [i1, List.length_append]
      cases B with
      | nil =>
        have : ([] : List zEn).length = 0 := rfl
        omega
      | cons e B =>
      have hl : (A.map zSo).length = n := by rw [List.length_map, i2]
      have hGu := zoR_G0 i5 hG
      have hat : (A.map zSo ++ e :: B)[n]? = some e := by rw [← hl]; exact zat_mid
      have hl2 : (A.map zSo ++ e :: B).length ≤ 16 := by rw [List.length_append, hl, ← i2, ← hAl]; exact h16
      have f1 : u 143 (16 * p + (n : Int)) = e.2.1 := (i4.2 n e hat).2.1
      have hsz : u 141 p = (L.length : Int) := by
        rw [i4.1, List.length_append, hl, hAl, i2]
      have c1 : ¬ 16 * p + (n : Int) ≥ 16 * p + (L.length : Int) := by omega
      have y1 : 0 ≤ 16 * p + (n : Int) ∧ 16 * p + (n : Int) < 160 := ⟨by omega, by omega⟩
      have i1' : L = (A ++ [e]) ++ B := by rw [i1, List.append_assoc]; rfl
      have i2' : (A ++ [e]).length = n + 1 := by rw [List.length_append, i2]; rfl
      have z1 : Unit → zw32 (zw32 (16 * p) + (L.length : Int)) = 16 * p + (L.length : Int) := fun _ => zi16 h0 h1 (by omega) (by omega)
      have z2 : Unit → zw32 (16 * p + (n : Int) + 1) = 16 * p + ((n + 1 : Nat) : Int) := fun _ => by
        clear z1
        rw [zw32_id (by omega) (by omega)]
        omega
      subst i3
      by_cases q : e.2.1 = 2
      · obtain ⟨d2, d3⟩ := r_set i4 hat hl2 (w := 1) (v := 0) (by decide) (by decide)
        rw [show (142 : Int) + 1 = 143 from rfl] at d2 d3
        rw [← hl, zset_mid, hl] at d2
        refine ⟨16 * p + ((n + 1 : Nat) : Int), _, ⟨A ++ [e], B, i1', i2', rfl, by rw [zSo_mid, zSo_t q]; exact d2, zoR_t i5 d3⟩, ?_⟩
        show zgf 11 22 129 u _ = _
        rw [gq_129_22 hGu, al_141 h0 h1, hsz, z1 (), if_neg c1, gq_129_24 hGu, gq_129_24 hGu, al_143 y1.1 y1.2, f1, zjn_ok, if_neg (fun z => z q)]
        dsimp only
        rw [as_143 y1.1 y1.2, z2 ()]
      · obtain ⟨d2, d3⟩ := r_set i4 hat hl2 (w := 1) (v := e.2.1) (by decide) (by decide)
        rw [show (142 : Int) + 1 = 143 from rfl] at d2 d3
        rw [← hl, zset_mid, hl] at d2
        refine ⟨16 * p + ((n + 1 : Nat) : Int), _, ⟨A ++ [e], B, i1', i2', rfl, by rw [zSo_mid, zSo_f q]; exact d2, zoR_t i5 d3⟩, ?_⟩
        show zgf 11 22 129 u _ = _
        rw [gq_129_22 hGu, al_141 h0 h1, hsz, z1 (), if_neg c1, gq_129_24 hGu, gq_129_24 hGu, al_143 y1.1 y1.2, f1, zjn_ok, if_pos q, gq_129_24 hGu, al_143 y1.1 y1.2, f1]
        dsimp only
        rw [as_143 y1.1 y1.2, z2 ()]
    · obtain ⟨A, B, i1, i2, i3, i4, i5⟩ := hI
      have hAl : L.length = A.length + B.length := by rw [i1, List.length_append]
      have hB : B = [] := List.length_eq_zero_iff.mp (by omega)
      subst hB
      rw [List.append_nil] at i1 i4
      subst i1
      have hGu := zoR_G0 i5 hG
      have hsz : u 141 p = (L.length : Int) := by rw [i4.1, List.length_map]
      have z1 : Unit → zw32 (zw32 (16 * p) + (L.length : Int)) = 16 * p + (L.length : Int) := fun _ => zi16 h0 h1 (by omega) (by omega)
      refine ⟨0, u, ?_, rfl, i4, i5⟩
      rw [gq_129_22 hGu, al_141 h0 h1, hsz, z1 (), i3, if_pos (Int.le_refl _)]
  obtain ⟨r, u', g1, rfl, g2, g3⟩ := go
  refine ⟨u', ?_, g2, g3⟩
  rw [eX11_softensAll, hst ()]
  exact g1
/-! ### decisions last -/
def zdl (s : List zEn × Nat) : List zEn × Nat := match s.1[s.2]? with
  | some e => if e.2.1 = 3 then (s.1.eraseIdx s.2 ++ [e], s.2) else (s.1, s.2 + 1)
  | none => s
set_option maxHeartbeats 400000 in
theorem zdl_t {l : List zEn} {k : Nat} {e : zEn} (h : l[k]? = some e) (h3 : e.2.1 = 3) : zdl (l, k) = (l.eraseIdx k ++ [e], k) := by
  unfold zdl
  simp only [h, if_pos h3]
set_option maxHeartbeats 400000 in
theorem zdl_f {l : List zEn} {k : Nat} {e : zEn} (h : l[k]? = some e) (h3 : ¬ e.2.1 = 3) : zdl (l, k) = (l, k + 1) := by
  unfold zdl
  simp only [h, if_neg h3]
def zdn (L : List zEn) : Nat → List zEn × Nat
  | 0 => (L, 0)
  | n + 1 => zdl (zdn L n)
set_option maxHeartbeats 400000 in
theorem zlok_la {N : Int} {L : List zEn} (h : zlok N L) {k : Nat} {e : zEn} (hk : L[k]? = some e) : zlok N (L.eraseIdx k ++ [e]) ∧ (L.eraseIdx k ++ [e]).length = L.length := by
  obtain ⟨A, B, rfl, rfl⟩ := zsplit hk
  rw [zer_mid]
  obtain ⟨h1, h2, h3⟩ := h
  have hl : (A ++ B ++ [e]).length = (A ++ e :: B).length := by
    simp only [List.length_append, List.length_cons, List.length_nil]
    omega
  refine ⟨⟨by rw [hl]; exact h1, fun x hx => ?_, ?_⟩, hl⟩
  · refine h2 x ?_
    rcases List.mem_append.mp hx with q | q
    · rcases List.mem_append.mp q with q | q
      · exact List.mem_append_left _ q
      · exact List.mem_append_right _ (List.mem_cons_of_mem _ q)
    · rw [List.mem_singleton.mp q]
      exact List.mem_append_right _ List.mem_cons_self
  · rw [List.pairwise_append, List.pairwise_cons] at h3
    obtain ⟨p1, ⟨p2, p3⟩, p4⟩ := h3
    rw [List.pairwise_append, List.pairwise_append]
    refine ⟨⟨p1, p3, fun x hx y hy => p4 x hx y (List.mem_cons_of_mem _ hy)⟩, List.pairwise_singleton _ _, fun x hx y hy => ?_⟩
    rw [List.mem_singleton.mp hy]
    rcases List.mem_append.mp hx with q | q
    · exact p4 x q e List.mem_cons_self
    · exact fun z => p2 x q z.symm
set_option maxHeartbeats 400000 in
theorem zdn_ok {N : Int} {L : List zEn} (h : zlok N L) : ∀ n : Nat, n ≤ L.length → zlok N (zdn L n).1 ∧ (zdn L n).1.length = L.length ∧ (zdn L n).2 ≤ n
  | 0, _ => ⟨h, rfl, Nat.le_refl _⟩
  | n + 1, hn => by
    obtain ⟨i1, i2, i3⟩ := zdn_ok h n (by omega)
    obtain ⟨e, he⟩ := zgetE (L := (zdn L n).1) (k := (zdn L n).2) (by omega)
    have e0 : zdn L (n + 1) = zdl ((zdn L n).1, (zdn L n).2) := rfl
    by_cases q : e.2.1 = 3
    · rw [e0, zdl_t he q]
      obtain ⟨a, b⟩ := zlok_la i1 he
      exact ⟨a, b.trans i2, by show (zdn L n).2 ≤ n + 1; omega⟩
    · rw [e0, zdl_f he q]
      exact ⟨i1, i2, by show (zdn L n).2 + 1 ≤ n + 1; omega⟩
set_option maxHeartbeats 400000 in
theorem c_last {u0 : zMem} (hG : zG0 u0) {p : Int} (h0 : 0 ≤ p) (h1 : p < 10) {L : List zEn} (hC : zpC u0 p L) {N : Int} (hok : zlok N L) : ∃ u', fX6_decisionsLast (zbP p) u0 = some (0, u') ∧ zpC u' p (zdn L L.length).1 ∧ zoC p u0 u' := by
  have hz : zbP p = 53 + 6 * p := rfl
  have h16 := hok.1
  rw [eX6_decisionsLast]
  have go : ∃ r u', lX6_decisionsLast_1 (zbP p) 0 0 u0 = some (r, u') ∧ (r = 0 ∧ zpC u' p (zdn L L.length).1 ∧ zoC p u0 u') := by
    unfold lX6_decisionsLast_1
    refine zli2 (Q := fun r u' => r = 0 ∧ zpC u' p (zdn L L.length).1 ∧ zoC p u0 u') (fun n a b u => a = (((zdn L n).2 : Nat) : Int) ∧ b = (n : Int) ∧ zpC u p (zdn L n).1 ∧ zoC p u0 u) L.length (by omega) (fun k n a b u hn hI => ?_) (fun k a b u hI => ?_) ⟨rfl, rfl, hC, zoC_r⟩
    · obtain ⟨i1, i2, i4, i5⟩ := hI
      obtain ⟨j1, j2, j3⟩ := zdn_ok hok n (by omega)
      have e0 : zdn L (n + 1) = zdl ((zdn L n).1, (zdn L n).2) := rfl
      rw [e0]
      clear e0
      generalize (zdn L n).1 = M at i4 j1 j2 ⊢
      generalize (zdn L n).2 = t at i1 j3 ⊢
      obtain ⟨e, he⟩ := zgetE (L := M) (k := t) (by omega)
      have hGu := zoC_G0 h0 h1 i5 hG
      have hsz : u (zbP p) 1 = (L.length : Int) := by rw [i4.1, j2]
      have c1 : ¬ (n : Int) ≥ (L.length : Int) := by omega
      have ep := s6_part hGu h0 h1 (by omega) (i := (t : Int)) (w := 1) ⟨by omega, by omega⟩ ⟨by decide, by decide⟩
      rw [(i4.2 t e he).2.1] at ep
      have hup : Unit → zw32 (((n : Nat) : Int) + 1) = ((n + 1 : Nat) : Int) := fun _ => zupn (by omega)
      subst i1
      subst i2
      by_cases q : e.2.1 = 3
      · obtain ⟨m, hm⟩ : ∃ m : Nat, L.length = m + 1 := ⟨L.length - 1, by clear hup; omega⟩
        obtain ⟨u', d1, d2, d3⟩ := c_moveL hGu h0 h1 i4 (by clear hup; omega) he (t := m) (by clear hup; omega)
        have hml : (M.eraseIdx t).length = m := by
          rw [List.length_eraseIdx_of_lt (zgetL he)]
          clear hup
          omega
        have hins : (M.eraseIdx t).insertIdx m e = M.eraseIdx t ++ [e] := by
          rw [← hml]
          exact List.insertIdx_length_self
        rw [hins] at d2
        have hm1 : Unit → zw32 ((L.length : Int) - 1) = (m : Int) := fun _ => by
          clear hup
          rw [zw32_id (by omega) (by omega)]
          omega
        rw [zdl_t he q]
        refine ⟨(t : Int), ((n + 1 : Nat) : Int), u', ⟨rfl, rfl, d2, zoC_t i5 d3⟩, ?_⟩
        show zgf 6 1 (zbP p) u _ = _
        rw [gfP h0 h1, show ((1 : Nat) : Int) = 1 from rfl, hsz, if_neg c1, vcP_of h0 h1 ep, zjn_ok, if_neg (fun z => z q), gfP h0 h1, show ((1 : Nat) : Int) = 1 from rfl, hsz, hm1 (), vcP_of h0 h1 d1, hup ()]
      · have hut : Unit → zw32 (((t : Nat) : Int) + 1) = ((t + 1 : Nat) : Int) := fun _ => zupn (by clear hup; omega)
        rw [zdl_f he q]
        refine ⟨((t + 1 : Nat) : Int), ((n + 1 : Nat) : Int), u, ⟨rfl, rfl, i4, i5⟩, ?_⟩
        show zgf 6 1 (zbP p) u _ = _
        rw [gfP h0 h1, show ((1 : Nat) : Int) = 1 from rfl, hsz, if_neg c1, vcP_of h0 h1 ep, zjn_ok, if_pos q, hut (), hup ()]
    · obtain ⟨i1, i2, i4, i5⟩ := hI
      obtain ⟨j1, j2, j3⟩ := zdn_ok hok L.length (Nat.le_refl _)
      have hsz : u (zbP p) 1 = (L.length : Int) := by rw [i4.1, j2]
      refine ⟨0, u, ?_, rfl, i4, i5⟩
      show zgf 6 1 (zbP p) u _ = _
      rw [gfP h0 h1, show ((1 : Nat) : Int) = 1 from rfl, hsz, i2, if_pos (Int.le_refl _)]
  obtain ⟨r, u', g1, rfl, g2, g3⟩ := go
  exact ⟨u', g1, g2, g3⟩
set_option maxHeartbeats 400000 in
theorem r_last {u0 : zMem} (hG : zG0 u0) {p : Int} (h0 : 0 ≤ p) (h1 : p < 10) {L : List zEn} (hR : zpR u0 p L) {N : Int} (hok : zlok N L) : ∃ u', fX11_putsLast 129 p u0 = some (0, u') ∧ zpR u' p (zdn L L.length).1 ∧ zoR p u0 u' := by
  have h16 := hok.1
  have hsz0 : u0 141 p = (L.length : Int) := hR.1
  rw [eX11_putsLast, gq_129_22 hG, al_141 h0 h1, hsz0]
  have go : ∃ r u', lX11_putsLast_1 129 p (L.length : Int) 0 0 u0 = some (r, u') ∧ (r = 0 ∧ zpR u' p (zdn L L.length).1 ∧ zoR p u0 u') := by
    unfold lX11_putsLast_1
    refine zli2 (Q := fun r u' => r = 0 ∧ zpR u' p (zdn L L.length).1 ∧ zoR p u0 u') (fun n a b u => a = (((zdn L n).2 : Nat) : Int) ∧ b = (n : Int) ∧ zpR u p (zdn L n).1 ∧ zoR p u0 u) L.length (by omega) (fun k n a b u hn hI => ?_) (fun k a b u hI => ?_) ⟨rfl, rfl, hR, zoR_r⟩
    · obtain ⟨i1, i2, i4, i5⟩ := hI
      obtain ⟨j1, j2, j3⟩ := zdn_ok hok n (by omega)
      have e0 : zdn L (n + 1) = zdl ((zdn L n).1, (zdn L n).2) := rfl
      rw [e0]
      clear e0
      generalize (zdn L n).1 = M at i4 j1 j2 ⊢
      generalize (zdn L n).2 = t at i1 j3 ⊢
      obtain ⟨e, he⟩ := zgetE (L := M) (k := t) (by omega)
      have hGu := zoR_G0 i5 hG
      have c1 : ¬ (n : Int) ≥ (L.length : Int) := by omega
      have y1 : 0 ≤ 16 * p + (t : Int) ∧ 16 * p + (t : Int) < 160 := ⟨by omega, by omega⟩
      have f0 : u 142 (16 * p + (t : Int)) = e.1 := (i4.2 t e he).1
      have f1 : u 143 (16 * p + (t : Int)) = e.2.1 := (i4.2 t e he).2.1
      have f2 : u 144 (16 * p + (t : Int)) = e.2.2.1 := (i4.2 t e he).2.2.1
      have f3 : u 145 (16 * p + (t : Int)) = e.2.2.2 := (i4.2 t e he).2.2.2
      have hed := zlok_01 j1 e (List.mem_of_getElem? he)
      have hup : Unit → zw32 (((n : Nat) : Int) + 1) = ((n + 1 : Nat) : Int) := fun _ => zupn (by omega)
      have z1 : Unit → zw32 (zw32 (16 * p) + (t : Int)) = 16 * p + (t : Int) := fun _ => by
        clear hup
        exact zi16 h0 h1 (by omega) (by omega)
      subst i1
      subst i2
      by_cases q : e.2.1 = 3
      · have hl1 := zgetL he
        obtain ⟨u1, d1, d2, d3⟩ := r_falls hGu h0 h1 i4 (by clear hup z1; omega) (zlok_01 j1) (i := t) hl1
        have hG1 := zoR_G0 d3 hGu
        obtain ⟨m, hm⟩ : ∃ m : Nat, (M.eraseIdx t).length = m := ⟨_, rfl⟩
        have hmL : m + 1 = L.length := by
          rw [← hm, List.length_eraseIdx_of_lt hl1]
          clear hup z1
          omega
        obtain ⟨a2, a3⟩ := r_append hG1 h0 h1 d2 (e := e) (by clear hup z1; omega)
        rw [hm, q] at a2 a3
        have s1 : u1 141 p = (m : Int) := by rw [d2.1, hm]
        have ep := r_puts hG1 h0 h1 (k := (m : Int)) (by clear hup z1; omega) (by clear hup z1; omega) (a := e.1) (b := 3) (c := e.2.2.1) hed
        have hGp : zG0 (zpu u1 p m e.1 3 e.2.2.1 e.2.2.2) := zoR_G0 (zoR_pu (p := p) (by clear hup z1; omega) (by clear hup z1; omega)) hG1
        have s2 : zpu u1 p m e.1 3 e.2.2.1 e.2.2.2 141 p = (m : Int) := by
          rw [zpu_o (by clear hup z1; omega)]
          exact s1
        have hm1 : Unit → zw32 ((m : Int) + 1) = (m : Int) + 1 := fun _ => by
          clear hup z1
          exact zw32_id (by omega) (by omega)
        rw [zdl_t he q]
        refine ⟨(t : Int), ((n + 1 : Nat) : Int), _, ⟨rfl, rfl, a2, zoR_t i5 (zoR_t d3 a3)⟩, ?_⟩
        show (if (n : Int) ≥ (L.length : Int) then _ else _) = _
        rw [if_neg c1, gq_129_24 hGu, z1 (), al_143 y1.1 y1.2, f1, zjn_ok, if_neg (fun z => z q), gq_129_23 hGu, al_142 y1.1 y1.2, f0, gq_129_25 hGu, al_144 y1.1 y1.2, f2, gq_129_26 hGu, al_145 y1.1 y1.2, f3, vq_129 d1, gq_129_22 hG1, al_141 h0 h1, s1, vq_129 ep, gq_129_22 hGp, al_141 h0 h1, s2, hm1 (), as_141 h0 h1, hup ()]
      · have hut : Unit → zw32 (((t : Nat) : Int) + 1) = ((t + 1 : Nat) : Int) := fun _ => zupn (by clear hup z1; omega)
        rw [zdl_f he q]
        refine ⟨((t + 1 : Nat) : Int), ((n + 1 : Nat) : Int), u, ⟨rfl, rfl, i4, i5⟩, ?_⟩
        show (if (n : Int) ≥ (L.length : Int) then _ else _) = _
        rw [if_neg c1, gq_129_24 hGu, z1 (), al_143 y1.1 y1.2, f1, zjn_ok, if_pos q, hut (), hup ()]
    · obtain ⟨i1, i2, i4, i5⟩ := hI
      refine ⟨0, u, ?_, rfl, i4, i5⟩
      show (if b ≥ (L.length : Int) then _ else _) = _
      rw [i2, if_pos (Int.le_refl _)]
  obtain ⟨r, u', g1, rfl, g2, g3⟩ := go
  exact ⟨u', g1, g2, g3⟩
