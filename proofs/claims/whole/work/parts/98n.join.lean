/-! ===== take: the habits join and soften, as lists ===== -/
abbrev zak (w o : Int → Int) (a b : zEn) : Prop := w a.1 = w b.1 ∧ o a.1 = o b.1
def zjo (a b : zEn) : zEn := (a.1, a.2.1, a.2.2.1 + b.2.2.1, a.2.2.2)
def zjs (w o : Int → Int) (a : zEn) : List zEn → List zEn
  | [] => [a]
  | b :: m => if zak w o a b then zjo a b :: m else a :: b :: m
set_option maxHeartbeats 400000 in
theorem zjs_t {w o : Int → Int} {a b : zEn} {m : List zEn} (h : zak w o a b) : zjs w o a (b :: m) = zjo a b :: m := if_pos h
set_option maxHeartbeats 400000 in
theorem zjs_f {w o : Int → Int} {a b : zEn} {m : List zEn} (h : ¬ zak w o a b) : zjs w o a (b :: m) = a :: b :: m := if_neg h
/-- joined from behind -/
def zjC (w o : Int → Int) : List zEn → List zEn
  | [] => []
  | a :: l => zjs w o a (zjC w o l)
/-- joined from the first pair on -/
def zjF (w o : Int → Int) : zEn → List zEn → List zEn
  | a, [] => [a]
  | a, b :: r => if zak w o a b then zjF w o (zjo a b) r else a :: zjF w o b r
set_option maxHeartbeats 400000 in
theorem zjF_t {w o : Int → Int} {a b : zEn} {r : List zEn} (h : zak w o a b) : zjF w o a (b :: r) = zjF w o (zjo a b) r := if_pos h
set_option maxHeartbeats 400000 in
theorem zjF_f {w o : Int → Int} {a b : zEn} {r : List zEn} (h : ¬ zak w o a b) : zjF w o a (b :: r) = a :: zjF w o b r := if_neg h
set_option maxHeartbeats 400000 in
theorem zjF_h {w o : Int → Int} : ∀ (r : List zEn) (a : zEn), ∃ c m, zjF w o a r = c :: m ∧ c.1 = a.1
  | [], a => ⟨a, [], rfl, rfl⟩
  | b :: r, a => by
    by_cases h : zak w o a b
    · rw [zjF_t h]
      exact zjF_h r (zjo a b)
    · rw [zjF_f h]
      exact ⟨a, _, rfl, rfl⟩
set_option maxHeartbeats 400000 in
theorem zjo_a (a b d : zEn) : zjo a (zjo b d) = zjo (zjo a b) d := by
  show (a.1, a.2.1, a.2.2.1 + (b.2.2.1 + d.2.2.1), a.2.2.2) = (a.1, a.2.1, a.2.2.1 + b.2.2.1 + d.2.2.1, a.2.2.2)
  rw [Int.add_assoc]
set_option maxHeartbeats 400000 in
theorem zjF_j {w o : Int → Int} : ∀ (r : List zEn) (a b c : zEn) (m : List zEn), zak w o a b → zjF w o b r = c :: m → zjF w o (zjo a b) r = zjo a c :: m
  | [], a, b, c, m, h, e => by
    have e' : [b] = c :: m := e
    cases e'
    rfl
  | d :: r, a, b, c, m, h, e => by
    by_cases q : zak w o b d
    · have q2 : zak w o (zjo a b) d := ⟨h.1.trans q.1, h.2.trans q.2⟩
      rw [zjF_t q] at e
      rw [zjF_t q2, ← zjo_a]
      exact zjF_j r a (zjo b d) c m h e
    · have q2 : ¬ zak w o (zjo a b) d := fun z => q ⟨h.1.symm.trans z.1, h.2.symm.trans z.2⟩
      rw [zjF_f q] at e
      rw [zjF_f q2]
      cases e
      rfl
set_option maxHeartbeats 400000 in
theorem zjC_F {w o : Int → Int} : ∀ (r : List zEn) (a : zEn), zjC w o (a :: r) = zjF w o a r
  | [], a => rfl
  | b :: r, a => by
    have ih := zjC_F (w := w) (o := o) r b
    obtain ⟨c, m, e, ec⟩ := zjF_h (w := w) (o := o) r b
    have e0 : zjC w o (a :: b :: r) = zjs w o a (zjC w o (b :: r)) := rfl
    rw [e0, ih, e]
    by_cases q : zak w o a b
    · have q2 : zak w o a c := ⟨by rw [ec]; exact q.1, by rw [ec]; exact q.2⟩
      rw [zjs_t q2, zjF_t q, zjF_j r a b c m q e]
    · have q2 : ¬ zak w o a c := fun z => q ⟨by rw [← ec]; exact z.1, by rw [← ec]; exact z.2⟩
      rw [zjs_f q2, zjF_f q, e]
/-! ### what holds of a paper while it is joined -/
def zpok (N : Int) (e : zEn) : Prop := (0 ≤ e.1 ∧ e.1 < N) ∧ (0 ≤ e.2.1 ∧ e.2.1 ≤ 3) ∧ 0 ≤ e.2.2.1 ∧ 0 ≤ e.2.2.2 ∧ e.2.2.2 ≤ 1
def zSu : List zEn → Int
  | [] => 0
  | e :: l => e.2.2.1 + zSu l
set_option maxHeartbeats 400000 in
theorem zSu_app : ∀ {A B : List zEn}, zSu (A ++ B) = zSu A + zSu B
  | [], B => (Int.zero_add _).symm
  | e :: A, B => by
    have ih := zSu_app (A := A) (B := B)
    show e.2.2.1 + zSu (A ++ B) = e.2.2.1 + zSu A + zSu B
    omega
set_option maxHeartbeats 400000 in
theorem zSu_0 : ∀ {L : List zEn}, (∀ e ∈ L, 0 ≤ e.2.2.1) → 0 ≤ zSu L ∧ ∀ e ∈ L, e.2.2.1 ≤ zSu L
  | [], _ => ⟨by decide, fun e h => absurd h (by simp)⟩
  | a :: L, h => by
    obtain ⟨i1, i2⟩ := zSu_0 (L := L) (fun e he => h e (List.mem_cons_of_mem _ he))
    have ha := h a List.mem_cons_self
    have e0 : zSu (a :: L) = a.2.2.1 + zSu L := rfl
    refine ⟨by omega, fun e he => ?_⟩
    rcases List.mem_cons.mp he with rfl | he
    · omega
    · have := i2 e he
      omega
def zlk (N : Int) (L : List zEn) : Prop := L.length ≤ 16 ∧ (∀ e ∈ L, zpok N e) ∧ zSu L ≤ 999 ∧ L.Pairwise (fun a b => a.1 ≠ b.1)
set_option maxHeartbeats 400000 in
theorem zlk_ok {N : Int} {L : List zEn} (h : zlk N L) : zlok N L := by
  obtain ⟨h1, h2, h3, h4⟩ := h
  obtain ⟨s1, s2⟩ := zSu_0 (L := L) (fun e he => (h2 e he).2.2.1)
  refine ⟨h1, fun e he => ?_, h4⟩
  obtain ⟨q1, q2, q3, q4⟩ := h2 e he
  have := s2 e he
  exact ⟨q1, q2, ⟨q3, by omega⟩, q4⟩
set_option maxHeartbeats 400000 in
theorem zlk_jo {N : Int} {A S : List zEn} {a b : zEn} (h : zlk N (A ++ a :: b :: S)) : zlk N (A ++ zjo a b :: S) := by
  obtain ⟨h1, h2, h3, h4⟩ := h
  have ha := h2 a (by simp)
  have hb := h2 b (by simp)
  refine ⟨?_, fun e he => ?_, ?_, ?_⟩
  · rw [List.length_append, List.length_cons, List.length_cons] at h1
    rw [List.length_append, List.length_cons]
    omega
  · rcases List.mem_append.mp he with q | q
    · exact h2 e (List.mem_append_left _ q)
    · rcases List.mem_cons.mp q with rfl | q
      · refine ⟨ha.1, ha.2.1, ?_, ha.2.2.2⟩
        show 0 ≤ a.2.2.1 + b.2.2.1
        have := ha.2.2.1
        have := hb.2.2.1
        omega
      · exact h2 e (List.mem_append_right _ (List.mem_cons_of_mem _ (List.mem_cons_of_mem _ q)))
  · rw [zSu_app] at h3 ⊢
    have e1 : zSu (a :: b :: S) = a.2.2.1 + (b.2.2.1 + zSu S) := rfl
    have e2 : zSu (zjo a b :: S) = a.2.2.1 + b.2.2.1 + zSu S := rfl
    omega
  · rw [List.pairwise_append, List.pairwise_cons, List.pairwise_cons] at h4
    obtain ⟨p1, ⟨p2, -, p3⟩, p4⟩ := h4
    rw [List.pairwise_append, List.pairwise_cons]
    refine ⟨p1, ⟨fun y hy => p2 y (List.mem_cons_of_mem _ hy), p3⟩, fun x hx y hy => ?_⟩
    rcases List.mem_cons.mp hy with rfl | hy
    · exact p4 x hx a List.mem_cons_self
    · exact p4 x hx y (List.mem_cons_of_mem _ (List.mem_cons_of_mem _ hy))
set_option maxHeartbeats 400000 in
theorem zsplit : ∀ {L : List zEn} {k : Nat} {e : zEn}, L[k]? = some e → ∃ A B, L = A ++ e :: B ∧ A.length = k
  | [], k, e, h => by simp at h
  | a :: L, 0, e, h => by
    have h' : some a = some e := h
    cases h'
    exact ⟨[], L, rfl, rfl⟩
  | a :: L, k + 1, e, h => by
    have h' : L[k]? = some e := h
    obtain ⟨A, B, rfl, rfl⟩ := zsplit h'
    exact ⟨a :: A, B, rfl, rfl⟩
set_option maxHeartbeats 400000 in
theorem s6_isAlike {u : zMem} (hG : zG0 u) (hN : u 6 1 ≤ 16) {x y : Int} (x0 : 0 ≤ x) (x1 : x < u 6 1) (y0 : 0 ≤ y) (y1 : y < u 6 1) : fX6_isAlike 6 x y u = some (zb (u 8 x = u 8 y ∧ u 10 x = u 10 y), u) := by
  have p : ∀ (z k : Int), 0 ≤ z → z < u 6 1 → 0 ≤ k → k < 4 → fX5_part 6 z k u = some (u (8 + k) z, u) := fun z k z0 z1 k0 k1 => by
    rw [s5_part hG hN, if_pos ⟨z0, z1, k0, k1⟩]
  have a1 : fX5_part 6 x 0 u = some (u 8 x, u) := p x 0 x0 x1 (by decide) (by decide)
  have a2 : fX5_part 6 y 0 u = some (u 8 y, u) := p y 0 y0 y1 (by decide) (by decide)
  have a3 : fX5_part 6 x 2 u = some (u 10 x, u) := p x 2 x0 x1 (by decide) (by decide)
  have a4 : fX5_part 6 y 2 u = some (u 10 y, u) := p y 2 y0 y1 (by decide) (by decide)
  unfold fX6_isAlike
  rw [vq_6 a1, vq_6 a2, zjn_ok]
  by_cases c : u 8 x = u 8 y
  · rw [if_neg (fun q => q c), vq_6 a3, vq_6 a4]
    by_cases d : u 10 x = u 10 y
    · rw [if_neg (fun q => q d), zbl_1, zb_t ⟨c, d⟩]
    · rw [if_pos d]
      dsimp only
      rw [zbl_0, zb_f (fun q => d q.2)]
  · rw [if_pos c]
    dsimp only
    rw [zbl_0, zb_f (fun q => c q.1)]
set_option maxHeartbeats 400000 in
theorem c_join {u0 : zMem} (hG : zG0 u0) {p : Int} (h0 : 0 ≤ p) (h1 : p < 10) {L : List zEn} (hC : zpC u0 p L) {N : Int} (hN : u0 6 1 = N) (hN16 : N ≤ 16) (hok : zlk N L) {w o : Int → Int} (hw : ∀ i, u0 8 i = w i) (ho : ∀ i, u0 10 i = o i) : ∃ u', fX6_join (zbP p) 6 u0 = some (0, u') ∧ zpC u' p (zjC w o L) ∧ zoC p u0 u' ∧ zlk N (zjC w o L) := by
  have hz : zbP p = 53 + 6 * p := rfl
  have hlen := hok.1
  have hst : Unit → zw32 ((L.length : Int) - 2) = (L.length : Int) - 2 := fun _ => zw32_id (by omega) (by omega)
  rw [eX6_join, gfP h0 h1, show ((1 : Nat) : Int) = 1 from rfl, hC.1, hst ()]
  clear hst
  have go : ∃ r u', lX6_join_1 (zbP p) 6 ((L.length : Int) - 2) u0 = some (r, u') ∧ (r = 0 ∧ zpC u' p (zjC w o L) ∧ zoC p u0 u' ∧ zlk N (zjC w o L)) := by
    rcases List.eq_nil_or_concat L with hL | ⟨A0, x, hL⟩
    · unfold lX6_join_1
      refine zli1 (fun n a u => a < 0 ∧ u = u0) 0 (by omega) (fun k n a u hn _ => absurd hn (by omega)) (fun k a u hI => ?_) ⟨by rw [hL]; decide, rfl⟩
      obtain ⟨ha, rfl⟩ := hI
      refine ⟨0, u, ?_, rfl, ?_, zoC_r, ?_⟩
      · rw [if_pos ha]
      · rw [hL] at hC ⊢
        exact hC
      · rw [hL] at hok ⊢
        exact hok
    · rw [List.concat_eq_append] at hL
      have hM : L.length = A0.length + 1 := by rw [hL, List.length_append]; rfl
      unfold lX6_join_1
      refine zli1 (fun n a u => ∃ A S, L = A ++ S ∧ S.length = n + 1 ∧ a = (A.length : Int) - 1 ∧ zpC u p (A ++ zjC w o S) ∧ zoC p u0 u ∧ zlk N (A ++ zjC w o S)) A0.length (by omega) (fun k n a u hn hI => ?_) (fun k a u hI => ?_) ⟨A0, [x], hL, rfl, by omega, by rw [← show L = A0 ++ zjC w o [x] from hL]; exact hC, zoC_r, by rw [← show L = A0 ++ zjC w o [x] from hL]; exact hok⟩
      · obtain ⟨A, S, i1, i2, i3, i4, i5, i6⟩ := hI
        have hAl : L.length = A.length + S.length := by rw [i1, List.length_append]
        have hA : A ≠ [] := by
          intro q
          rw [q] at hAl
          have : ([] : List zEn).length = 0 := rfl
          omega
        obtain ⟨A', e, rfl⟩ : ∃ A' e, A = A' ++ [e] := ⟨A.dropLast, A.getLast hA, (List.dropLast_concat_getLast hA).symm⟩
        rw [List.append_assoc, List.singleton_append] at i1 i4 i6
        cases S with
        | nil =>
          have : ([] : List zEn).length = 0 := rfl
          omega
        | cons b r =>
        obtain ⟨c, m, hc, hcb⟩ := zjF_h (w := w) (o := o) r b
        rw [← zjC_F] at hc
        rw [hc] at i4 i6
        obtain ⟨t, ht⟩ : ∃ t : Nat, A'.length = t := ⟨_, rfl⟩
        have hAe : (A' ++ [e]).length = t + 1 := by rw [List.length_append, ht]; rfl
        have ha : a = t := by rw [i3, hAe]; omega
        have hl2 : (A' ++ e :: c :: m).length = t + (m.length + 2) := by rw [List.length_append, ht]; rfl
        have h16 := i6.1
        rw [hl2] at h16
        have hGu := zoC_G0 h0 h1 i5 hG
        have he := i6.2.1 e (by simp)
        have hc2 := i6.2.1 c (by simp)
        have hsum := i6.2.2.1
        have hs0 := (zSu_0 (L := m) (fun x hx => (i6.2.1 x (by simp [hx])).2.2.1)).1
        have hs1 := (zSu_0 (L := A') (fun x hx => (i6.2.1 x (by simp [hx])).2.2.1)).1
        rw [zSu_app, show zSu (e :: c :: m) = e.2.2.1 + (c.2.2.1 + zSu m) from rfl] at hsum
        obtain ⟨f0, f1, f2, f3⟩ := i4.2 t e (by rw [← ht]; exact zat_mid)
        obtain ⟨g0, g1, g2, g3⟩ := i4.2 (t + 1) c (by
          rw [← hAe, show A' ++ e :: c :: m = (A' ++ [e]) ++ c :: m by rw [List.append_assoc]; rfl]
          exact zat_mid)
        have q6 : u 6 1 = N := (i5 _ _ (by omega) (by omega)).trans hN
        have q8 : ∀ i, u 8 i = w i := fun i => (i5 _ _ (by omega) (by omega)).trans (hw i)
        have q10 : ∀ i, u 10 i = o i := fun i => (i5 _ _ (by omega) (by omega)).trans (ho i)
        have al := s6_isAlike hGu (by omega) he.1.1 (by rw [q6]; exact he.1.2) hc2.1.1 (by rw [q6]; exact hc2.1.2)
        rw [q8, q8, q10, q10] at al
        have t0 : (0 : Int) ≤ t := by omega
        have t16 : (t : Int) < 16 := by omega
        have s0 : (0 : Int) ≤ ((t + 1 : Nat) : Int) := by omega
        have s16 : ((t + 1 : Nat) : Int) < 16 := by omega
        have tn : ¬ (t : Int) < 0 := by omega
        have f0' : u (zbP p + 2 + 0) t = e.1 := by rw [Int.add_zero]; exact f0
        have g0' : u (zbP p + 2 + 0) ((t + 1 : Nat) : Int) = c.1 := by rw [Int.add_zero]; exact g0
        have i1' : L = A' ++ e :: b :: r := i1
        have i2' : (e :: b :: r).length = n + 1 + 1 := by rw [List.length_cons, i2]
        have hjn : Unit → zw32 ((t : Int) + 1) = ((t + 1 : Nat) : Int) := fun _ => zupn (by omega)
        have hdn : Unit → zw32 ((t : Int) + -1) = (A'.length : Int) - 1 := fun _ => by
          clear hjn
          rw [zw32_id (by omega) (by omega)]
          omega
        have eC : zjC w o (e :: b :: r) = zjs w o e (zjC w o (b :: r)) := rfl
        rw [hc] at eC
        subst ha
        by_cases q : zak w o e c
        · rw [zjs_t q] at eC
          rw [zb_t q] at al
          have hv : Unit → zw32 (e.2.2.1 + c.2.2.1) = e.2.2.1 + c.2.2.1 := fun _ => by
            clear hjn hdn
            have := he.2.2.1
            have := hc2.2.2.1
            exact zw32_id (by omega) (by omega)
          obtain ⟨d2, d3⟩ := c_set i4 (i := t) (e := e) (by rw [← ht]; exact zat_mid) (w := 2) (v := e.2.2.1 + c.2.2.1) (by decide) (by decide)
          rw [← ht, zset_mid] at d2
          rw [ht] at d2
          have d2' : zpC (zupd u (zbP p + 2 + 2) t (e.2.2.1 + c.2.2.1)) p ((A' ++ [zjo e c]) ++ c :: m) := by
            rw [List.append_assoc]
            exact d2
          have hl3 : (A' ++ [zjo e c]).length = t + 1 := by rw [List.length_append, ht]; rfl
          obtain ⟨u', e1, e2, e3⟩ := c_drop (zoC_G0 h0 h1 d3 hGu) h0 h1 d2' (by rw [List.length_append, hl3, List.length_cons]; clear hjn hdn hv; omega) (i := t + 1) (by rw [List.length_append, hl3, List.length_cons]; clear hjn hdn hv; omega)
          rw [← hl3, zer_mid, List.append_assoc] at e2
          refine ⟨(A'.length : Int) - 1, u', ⟨A', e :: b :: r, i1', i2', rfl, by rw [eC]; exact e2, zoC_t i5 (zoC_t d3 e3), by rw [eC]; exact zlk_jo i6⟩, ?_⟩
          show (if (t : Int) < 0 then _ else _) = _
          rw [if_neg tn, gqP hGu h0 h1, aqPe hGu h0 h1 (by decide) (by decide), alPr h0 h1 (by decide) (by decide) t0 t16, f0', gqP hGu h0 h1, aqPe hGu h0 h1 (by decide) (by decide), hjn (), alPr h0 h1 (by decide) (by decide) s0 s16, g0', zcall_of al, zjn_ok, if_neg (by decide), gqP hGu h0 h1, aqPe hGu h0 h1 (by decide) (by decide), alPr h0 h1 (by decide) (by decide) t0 t16, f2, gqP hGu h0 h1, aqPe hGu h0 h1 (by decide) (by decide), alPr h0 h1 (by decide) (by decide) s0 s16, g2, hv (), asPr h0 h1 (by decide) (by decide) t0 t16, vcP_of h0 h1 e1, hdn ()]
        · rw [zjs_f q] at eC
          rw [zb_f q] at al
          refine ⟨(A'.length : Int) - 1, u, ⟨A', e :: b :: r, i1', i2', rfl, by rw [eC]; exact i4, i5, by rw [eC]; exact i6⟩, ?_⟩
          show (if (t : Int) < 0 then _ else _) = _
          rw [if_neg tn, gqP hGu h0 h1, aqPe hGu h0 h1 (by decide) (by decide), alPr h0 h1 (by decide) (by decide) t0 t16, f0', gqP hGu h0 h1, aqPe hGu h0 h1 (by decide) (by decide), hjn (), alPr h0 h1 (by decide) (by decide) s0 s16, g0', zcall_of al, zjn_ok, if_pos rfl, hdn ()]
      · obtain ⟨A, S, i1, i2, i3, i4, i5, i6⟩ := hI
        have hAl : L.length = A.length + S.length := by rw [i1, List.length_append]
        have hA : A = [] := List.length_eq_zero_iff.mp (by omega)
        subst hA
        rw [List.nil_append] at i1 i4 i6
        subst i1
        have ha : a < 0 := by rw [i3]; decide
        refine ⟨0, u, ?_, rfl, i4, i5, i6⟩
        rw [if_pos ha]
  obtain ⟨r, u', g1, rfl, g2, g3, g4⟩ := go
  exact ⟨u', g1, g2, g3, g4⟩
set_option maxHeartbeats 400000 in
theorem r_join {u0 : zMem} (hG : zG0 u0) {p : Int} (h0 : 0 ≤ p) (h1 : p < 10) {L : List zEn} (hR : zpR u0 p L) {N : Int} (hN16 : N ≤ 16) (hok : zlk N L) {w o : Int → Int} (hw : ∀ i, 0 ≤ i → i < N → u0 130 i = w i) (ho : ∀ i, 0 ≤ i → i < N → u0 130 (32 + i) = o i) : ∃ u', fX11_joinsAll 129 p u0 = some (0, u') ∧ zpR u' p (zjC w o L) ∧ zoR p u0 u' := by
  have hlen := hok.1
  rw [eX11_joinsAll]
  have go : ∃ r u', lX11_joinsAll_1 129 p 1 u0 = some (r, u') ∧ (r = 0 ∧ zpR u' p (zjC w o L) ∧ zoR p u0 u') := by
    cases L with
    | nil =>
      unfold lX11_joinsAll_1
      refine zli1 (fun n a u => a = 1 ∧ u = u0) 0 (by omega) (fun k n a u hn _ => absurd hn (by omega)) (fun k a u hI => ?_) ⟨rfl, rfl⟩
      obtain ⟨rfl, rfl⟩ := hI
      refine ⟨0, u, ?_, rfl, hR, zoR_r⟩
      have q1 : u 141 p = 0 := hR.1
      rw [gq_129_22 hG, al_141 h0 h1, q1, if_pos (by decide)]
    | cons a0 r0 =>
      have hM : (a0 :: r0).length = r0.length + 1 := rfl
      unfold lX11_joinsAll_1
      refine zli1 (fun n v u => ∃ A a S, zjC w o (a0 :: r0) = A ++ zjF w o a S ∧ S.length + n = r0.length ∧ v = (A.length : Int) + 1 ∧ zpR u p (A ++ a :: S) ∧ zlk N (A ++ a :: S) ∧ zoR p u0 u) r0.length (by omega) (fun k n v u hn hI => ?_) (fun k v u hI => ?_) ⟨[], a0, r0, zjC_F r0 a0, rfl, rfl, hR, hok, zoR_r⟩
      · obtain ⟨A, a, S, i1, i2, i3, i4, i5, i6⟩ := hI
        cases S with
        | nil =>
          have : ([] : List zEn).length = 0 := rfl
          omega
        | cons b r =>
        obtain ⟨t, ht⟩ : ∃ t : Nat, A.length = t := ⟨_, rfl⟩
        have hv : v = ((t + 1 : Nat) : Int) := by rw [i3, ht]; rfl
        have hl2 : (A ++ a :: b :: r).length = t + (r.length + 2) := by rw [List.length_append, ht]; rfl
        have hAa : (A ++ [a]).length = t + 1 := by rw [List.length_append, ht]; rfl
        have h16 := i5.1
        rw [hl2] at h16
        have hGu := zoR_G0 i6 hG
        have ha := i5.2.1 a (by simp)
        have hb := i5.2.1 b (by simp)
        have hsum := i5.2.2.1
        have hs0 := (zSu_0 (L := r) (fun x hx => (i5.2.1 x (by simp [hx])).2.2.1)).1
        have hs1 := (zSu_0 (L := A) (fun x hx => (i5.2.1 x (by simp [hx])).2.2.1)).1
        rw [zSu_app, show zSu (a :: b :: r) = a.2.2.1 + (b.2.2.1 + zSu r) from rfl] at hsum
        have hat : (A ++ a :: b :: r)[t]? = some a := by rw [← ht]; exact zat_mid
        have hbt : (A ++ a :: b :: r)[t + 1]? = some b := by
          rw [← hAa, show A ++ a :: b :: r = (A ++ [a]) ++ b :: r by rw [List.append_assoc]; rfl]
          exact zat_mid
        have f0 : u 142 (16 * p + (t : Int)) = a.1 := (i4.2 t a hat).1
        have f2 : u 144 (16 * p + (t : Int)) = a.2.2.1 := (i4.2 t a hat).2.2.1
        have g0 : u 142 (16 * p + ((t + 1 : Nat) : Int)) = b.1 := (i4.2 (t + 1) b hbt).1
        have g2 : u 144 (16 * p + ((t + 1 : Nat) : Int)) = b.2.2.1 := (i4.2 (t + 1) b hbt).2.2.1
        have hsz : u 141 p = ((t + (r.length + 2) : Nat) : Int) := by rw [i4.1, hl2]
        have c1 : ¬ ((t + 1 : Nat) : Int) ≥ ((t + (r.length + 2) : Nat) : Int) := by omega
        have q0 : ∀ i, 0 ≤ i → i < N → u 130 i = w i := fun i x y => (i6 _ _ (by omega) (by omega)).trans (hw i x y)
        have q2 : ∀ i, 0 ≤ i → i < N → u 130 (32 + i) = o i := fun i x y => (i6 _ _ (by omega) (by omega)).trans (ho i x y)
        have wa := q0 a.1 ha.1.1 ha.1.2
        have wb := q0 b.1 hb.1.1 hb.1.2
        have oa := q2 a.1 ha.1.1 ha.1.2
        have ob := q2 b.1 hb.1.1 hb.1.2
        have a16 := ha.1
        have b16 := hb.1
        have x1 : 0 ≤ a.1 ∧ a.1 < 64 := ⟨by omega, by omega⟩
        have x2 : 0 ≤ b.1 ∧ b.1 < 64 := ⟨by omega, by omega⟩
        have x3 : 0 ≤ 32 + a.1 ∧ 32 + a.1 < 64 := ⟨by omega, by omega⟩
        have x4 : 0 ≤ 32 + b.1 ∧ 32 + b.1 < 64 := ⟨by omega, by omega⟩
        have y1 : 0 ≤ 16 * p + (t : Int) ∧ 16 * p + (t : Int) < 160 := ⟨by omega, by omega⟩
        have y2 : 0 ≤ 16 * p + ((t + 1 : Nat) : Int) ∧ 16 * p + ((t + 1 : Nat) : Int) < 160 := ⟨by omega, by omega⟩
        have z1 : Unit → zw32 (zw32 (16 * p) + ((t + 1 : Nat) : Int)) = 16 * p + ((t + 1 : Nat) : Int) := fun _ => zi16 h0 h1 (by omega) (by omega)
        have z2 : Unit → zw32 (16 * p + ((t + 1 : Nat) : Int) - 1) = 16 * p + (t : Int) := fun _ => by
          clear z1
          rw [zw32_id (by omega) (by omega)]
          omega
        have z3 : Unit → zw32 (32 + a.1) = 32 + a.1 := fun _ => by
          clear z1 z2
          exact zw32_id (by omega) (by omega)
        have z4 : Unit → zw32 (32 + b.1) = 32 + b.1 := fun _ => by
          clear z1 z2 z3
          exact zw32_id (by omega) (by omega)
        have z5 : Unit → zw32 (((t + 1 : Nat) : Int) + 1) = ((t + 1 + 1 : Nat) : Int) := fun _ => by
          clear z1 z2 z3 z4
          exact zupn (by omega)
        have i2' : r.length + (n + 1) = r0.length := by rw [← i2, List.length_cons]; clear z1 z2 z3 z4 z5; omega
        subst hv
        have noj : ¬ zak w o a b → ∃ v' u', (∃ A a S, zjC w o (a0 :: r0) = A ++ zjF w o a S ∧ S.length + (n + 1) = r0.length ∧ v' = (A.length : Int) + 1 ∧ zpR u' p (A ++ a :: S) ∧ zlk N (A ++ a :: S) ∧ zoR p u0 u') ∧ k ((t + 1 + 1 : Nat) : Int) u = k v' u' := fun q => by
          refine ⟨((t + 1 + 1 : Nat) : Int), u, ⟨A ++ [a], b, r, ?_, i2', by rw [hAa]; rfl, by rw [List.append_assoc]; exact i4, by rw [List.append_assoc]; exact i5, i6⟩, rfl⟩
          rw [i1, zjF_f q, List.append_assoc]
          rfl
        by_cases q : w a.1 = w b.1
        · by_cases q' : o a.1 = o b.1
          · have hv : zw32 (a.2.2.1 + b.2.2.1) = a.2.2.1 + b.2.2.1 := by
              clear z1 z2 z3 z4 z5
              have := ha.2.2.1
              have := hb.2.2.1
              exact zw32_id (by omega) (by omega)
            obtain ⟨d2, d3⟩ := r_set i4 hat (by rw [hl2]; exact h16) (w := 2) (v := a.2.2.1 + b.2.2.1) (by decide) (by decide)
            rw [show (142 : Int) + 2 = 144 from rfl] at d2 d3
            rw [← ht, zset_mid] at d2
            rw [ht] at d2
            have d2' : zpR (zupd u 144 (16 * p + (t : Int)) (a.2.2.1 + b.2.2.1)) p ((A ++ [zjo a b]) ++ b :: r) := by
              rw [List.append_assoc]
              exact d2
            have hl3 : (A ++ [zjo a b]).length = t + 1 := by rw [List.length_append, ht]; rfl
            obtain ⟨u', e1, e2, e3⟩ := r_falls (zoR_G0 d3 hGu) h0 h1 d2' (by rw [List.length_append, hl3, List.length_cons]; clear z1 z2 z3 z4 z5 hv; omega) (fun x hx => by
              rw [List.append_assoc] at hx
              have hp : zpok N x ∨ x = zjo a b := by
                rcases List.mem_append.mp hx with hx | hx
                · exact Or.inl (i5.2.1 x (List.mem_append_left _ hx))
                · rcases List.mem_cons.mp hx with hx | hx
                  · exact Or.inr hx
                  · exact Or.inl (i5.2.1 x (List.mem_append_right _ (List.mem_cons_of_mem _ hx)))
              clear z1 z2 z3 z4 z5 hv
              rcases hp with hp | hp
              · have := hp.2.2.2
                omega
              · have h2 : x.2.2.2 = a.2.2.2 := by rw [hp]; rfl
                have := ha.2.2.2
                omega) (i := t + 1) (by rw [List.length_append, hl3, List.length_cons]; clear z1 z2 z3 z4 z5 hv; omega)
            rw [← hl3, zer_mid, List.append_assoc] at e2
            refine ⟨((t + 1 : Nat) : Int), u', ⟨A, zjo a b, r, ?_, i2', by rw [ht]; rfl, e2, zlk_jo i5, zoR_t i6 (zoR_t d3 e3)⟩, ?_⟩
            · rw [i1, zjF_t ⟨q, q'⟩]
            · show zgf 11 22 129 u _ = _
              rw [gq_129_22 hGu, al_141 h0 h1, hsz, if_neg c1, gq_129_23 hGu, z1 (), z2 (), al_142 y1.1 y1.2, f0, gq_129_23 hGu, al_142 y2.1 y2.2, g0, gq_129_0 hGu, al_130 x1.1 x1.2, wa, gq_129_0 hGu, al_130 x2.1 x2.2, wb, zjn_ok, zjn_ok, if_neg (fun z => z q), gq_129_0 hGu, z3 (), al_130 x3.1 x3.2, oa, gq_129_0 hGu, z4 (), al_130 x4.1 x4.2, ob, if_neg (fun z => z q'), gq_129_25 hGu, al_144 y1.1 y1.2, f2, gq_129_25 hGu, al_144 y2.1 y2.2, g2, hv, as_144 y1.1 y1.2, vq_129 e1]
          · obtain ⟨v', u', j1, j2⟩ := noj (fun z => q' z.2)
            refine ⟨v', u', j1, ?_⟩
            rw [← j2]
            show zgf 11 22 129 u _ = _
            rw [gq_129_22 hGu, al_141 h0 h1, hsz, if_neg c1, gq_129_23 hGu, z1 (), z2 (), al_142 y1.1 y1.2, f0, gq_129_23 hGu, al_142 y2.1 y2.2, g0, gq_129_0 hGu, al_130 x1.1 x1.2, wa, gq_129_0 hGu, al_130 x2.1 x2.2, wb, zjn_ok, zjn_ok, if_neg (fun z => z q), gq_129_0 hGu, z3 (), al_130 x3.1 x3.2, oa, gq_129_0 hGu, z4 (), al_130 x4.1 x4.2, ob, if_pos q', z5 ()]
        · obtain ⟨v', u', j1, j2⟩ := noj (fun z => q z.1)
          refine ⟨v', u', j1, ?_⟩
          rw [← j2]
          show zgf 11 22 129 u _ = _
          rw [gq_129_22 hGu, al_141 h0 h1, hsz, if_neg c1, gq_129_23 hGu, z1 (), z2 (), al_142 y1.1 y1.2, f0, gq_129_23 hGu, al_142 y2.1 y2.2, g0, gq_129_0 hGu, al_130 x1.1 x1.2, wa, gq_129_0 hGu, al_130 x2.1 x2.2, wb, zjn_ok, zjn_ok, if_pos q, z5 ()]
      · obtain ⟨A, a, S, i1, i2, i3, i4, i5, i6⟩ := hI
        have hS : S = [] := List.length_eq_zero_iff.mp (by omega)
        subst hS
        have hGu := zoR_G0 i6 hG
        have hl2 : (A ++ [a]).length = A.length + 1 := by rw [List.length_append]; rfl
        have q1 := i4.1
        rw [hl2] at q1
        have c1 : (A.length : Int) + 1 ≥ ((A.length + 1 : Nat) : Int) := by omega
        refine ⟨0, u, ?_, rfl, by rw [i1]; exact i4, i6⟩
        rw [gq_129_22 hGu, al_141 h0 h1, q1, i3, if_pos c1]
  obtain ⟨r, u', g1, rfl, g2, g3⟩ := go
  exact ⟨u', g1, g2, g3⟩
