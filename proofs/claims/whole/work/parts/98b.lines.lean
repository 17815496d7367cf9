/-! ===== the class's reckoner: lines ===== -/
def zlnok (l : zLn) : Prop := (∀ c ∈ l.1, zcok c) ∧ ∀ ds, l.2 = some ds → ∀ c ∈ ds, zcok c
set_option maxHeartbeats 400000 in
theorem zvl_0 {nm : Int → Int} {cs : List Int} {v : Int} (h : zvl nm 36 cs v) : zex nm cs [] = some [v] := h [] (by decide)
set_option maxHeartbeats 400000 in
theorem s7_end {w : Int} (w0 : 0 ≤ w) (w1 : w < 4) {C : List Int} {u : zMem} (hG : zG0 u) (hC : zcv u w C) {i m : Nat} {v : Int} (hst : zst u [v]) (hsg : zsgm C [10059] i) : ∃ u', zoW u u' ∧ zlp zWb (zWF w) (1 + m) 0 i u = some (v, u') := by
  obtain ⟨u', p1, p2⟩ := zWF_e hG w0 w1 hC (zsgm_h hsg) hst
  refine ⟨u', p1, ?_⟩
  rw [show 1 + m = m + 1 by omega, zlp_S, p2]
  rfl
set_option maxHeartbeats 400000 in
theorem s7_line {w : Int} (w0 : 0 ≤ w) (w1 : w < 4) {C : List Int} {nm : Int → Int} {u : zMem} (hG : zG0 u) (hC : zcv u w C) (hn : u 24 = nm) (hst : zst u []) {l : zLn} (hl : zlnok l) {i : Nat} (hsg : zsgm C (zlc l) i) {x : Option Int} (hx : zLc nm l x) (m : Nat) :
    (∀ r, x = some r → ∃ u', zoW u u' ∧ zlp zWb (zWF w) ((zlc l).length + m) 0 i u = some (r, u')) ∧
    (x = none → ∃ u', zoW u u' ∧ zst u' [] ∧ zlp zWb (zWF w) ((zlc l).length + m) 0 i u = zlp zWb (zWF w) m 0 ((i + (zlc l).length : Nat) : Int) u') := by
  obtain ⟨cs, o⟩ := l
  obtain ⟨v, hv, hx⟩ := hx
  obtain ⟨ok1, ok2⟩ := hl
  cases o with
  | none =>
    have hz : zlc (cs, none) = cs ++ [10059] := rfl
    rw [hz] at hsg
    have hlen : (zlc (cs, none)).length + m = cs.length + (1 + m) := by rw [hz, List.length_append, List.length_singleton]; omega
    rcases hx with ⟨-, hx⟩ | ⟨ds, hx, -⟩
    · subst hx
      obtain ⟨u1, p1, p2, p3⟩ := s7_run w0 w1 cs i (1 + m) u [] [v] hG hC hn hst (zsgm_l hsg) ok1 (zvl_0 hv)
      obtain ⟨u2, q1, q2⟩ := s7_end (m := m) w0 w1 (zoW_G0 p1 hG) (zcv_W w0 hC p1) p2 (zsgm_r hsg)
      refine ⟨fun r h => ?_, fun h => (by cases h)⟩
      cases h
      exact ⟨u2, zoW_t p1 q1, by rw [hlen, p3, q2]⟩
    · cases hx
  | some ds =>
    have hz : zlc (cs, some ds) = cs ++ 10063 :: (ds ++ [10059]) := rfl
    rw [hz] at hsg
    have hlen : (zlc (cs, some ds)).length + m = cs.length + (ds.length + (1 + m) + 1) := by rw [hz, List.length_append, List.length_cons, List.length_append, List.length_singleton]; omega
    have hlen2 : i + (zlc (cs, some ds)).length = i + cs.length + 1 + ds.length + 1 := by rw [hz, List.length_append, List.length_cons, List.length_append, List.length_singleton]; omega
    obtain ⟨u1, p1, p2, p3⟩ := s7_run w0 w1 cs i (ds.length + (1 + m) + 1) u [] [v] hG hC hn hst (zsgm_l hsg) ok1 (zvl_0 hv)
    have hG1 := zoW_G0 p1 hG
    have hC1 := zcv_W w0 hC p1
    have sg1 := zsgm_r hsg
    obtain ⟨u2, q1, q2, q3⟩ := zWF_q hG1 w0 w1 hC1 (zsgm_h sg1) p2
    have hG2 := zoW_G0 q1 hG1
    have hC2 := zcv_W w0 hC1 q1
    have sg2 := zsgm_t sg1
    have go : zlp zWb (zWF w) ((zlc (cs, some ds)).length + m) 0 i u = zlp zWb (zWF w) (ds.length + (1 + m)) (if zxh [v] = 0 then 1 else 0) ((i + cs.length + 1 : Nat) : Int) u2 := by
      rw [hlen, p3, zlp_S, q3]
    have q2' : zst u2 [] := q2
    rcases hx with ⟨hx, -⟩ | ⟨ds', hx, hy⟩
    · cases hx
    cases hx
    rcases hy with ⟨hv0, r, hr, hd⟩ | ⟨hv0, hx⟩
    · subst hr
      have hm : (if zxh [v] = 0 then (1 : Int) else 0) = 0 := if_neg hv0
      rw [hm] at go
      have hn2 : u2 24 = nm := (funext (fun j => (zoW_t p1 q1) 24 j (by omega) (by decide))).trans hn
      obtain ⟨u3, s1, s2, s3⟩ := s7_run w0 w1 ds (i + cs.length + 1) (1 + m) u2 [] [r] hG2 hC2 hn2 q2' (zsgm_l sg2) (ok2 ds rfl) (zvl_0 hd)
      obtain ⟨u4, t1, t2⟩ := s7_end (m := m) w0 w1 (zoW_G0 s1 hG2) (zcv_W w0 hC2 s1) s2 (zsgm_r sg2)
      refine ⟨fun r' h => ?_, fun h => (by cases h)⟩
      cases h
      exact ⟨u4, zoW_t (zoW_t p1 q1) (zoW_t s1 t1), by rw [go, s3, t2]⟩
    · subst hx
      have hm : (if zxh [v] = 0 then (1 : Int) else 0) = 1 := if_pos hv0
      rw [hm] at go
      refine ⟨fun r' h => (by cases h), fun _ => ⟨u2, zoW_t p1 q1, q2', ?_⟩⟩
      rw [go, show ds.length + (1 + m) = ds.length + 1 + m by omega, s7_skip w0 w1 hG2 hC2 ds (i + cs.length + 1) m sg2 (ok2 ds rfl), hlen2]
set_option maxHeartbeats 400000 in
theorem zWF_o {u : zMem} {w : Int} (w0 : 0 ≤ w) (w1 : w < 4) {C : List Int} (h : zcv u w C) (f : Int → Int → zMem → zRs) (v3 : Int) : zWF w f v3 (C.length : Int) u = some (0, u) := by
  have c2 : (C.length : Int) ≥ C.length := by omega
  unfold zWF
  rw [vcL_of w0 w1 (s4_size w0 w1), h.1, if_pos c2]
set_option maxHeartbeats 400000 in
theorem s7_lines {w : Int} (w0 : 0 ≤ w) (w1 : w < 4) {C : List Int} {nm : Int → Int} {r : Int} (m : Nat) : ∀ (Ls : List zLn) (i : Nat) (u : zMem), zG0 u → zcv u w C → u 24 = nm → zst u [] → (∀ l ∈ Ls, zlnok l) → zsgm C (zfl Ls) i → i + (zfl Ls).length = C.length → zLw nm 0 Ls r → ∃ u', zoW u u' ∧ zlp zWb (zWF w) ((zfl Ls).length + 1 + m) 0 i u = some (r, u')
  | [], i, u, hG, hC, hn, hst, hok, hsg, hi, hw => by
    have hr : r = 0 := hw
    have hi' : i = C.length := hi
    refine ⟨u, zoW_r, ?_⟩
    rw [show (zfl []).length + 1 + m = m + 1 by show 0 + 1 + m = m + 1; omega, zlp_S, hi', zWF_o w0 w1 hC, hr]
  | l :: Ls, i, u, hG, hC, hn, hst, hok, hsg, hi, hw => by
    have hz : zfl (l :: Ls) = zlc l ++ zfl Ls := rfl
    rw [hz] at hsg hi
    rw [List.length_append] at hi
    have hlen : (zfl (l :: Ls)).length + 1 + m = (zlc l).length + ((zfl Ls).length + 1 + m) := by rw [hz, List.length_append]; omega
    rcases hw with hw | ⟨hw, hw2⟩
    · obtain ⟨x1, -⟩ := s7_line w0 w1 hG hC hn hst (hok l (List.mem_cons_self ..)) (zsgm_l hsg) hw ((zfl Ls).length + 1 + m)
      obtain ⟨u1, p1, p2⟩ := x1 r rfl
      exact ⟨u1, p1, by rw [hlen, p2]⟩
    · obtain ⟨-, x2⟩ := s7_line w0 w1 hG hC hn hst (hok l (List.mem_cons_self ..)) (zsgm_l hsg) hw ((zfl Ls).length + 1 + m)
      obtain ⟨u1, p1, p2, p3⟩ := x2 rfl
      have hn1 : u1 24 = nm := (funext (fun j => p1 24 j (by omega) (by decide))).trans hn
      obtain ⟨u2, q1, q2⟩ := s7_lines w0 w1 m Ls (i + (zlc l).length) u1 (zoW_G0 p1 hG) (zcv_W w0 hC p1) hn1 p2 (fun l' h => hok l' (List.mem_cons_of_mem _ h)) (zsgm_r hsg) (by omega) hw2
      exact ⟨u2, zoW_t p1 q1, by rw [hlen, p3, q2]⟩
set_option maxHeartbeats 400000 in
theorem s7_loop {w : Int} (w0 : 0 ≤ w) (w1 : w < 4) {Ls : List zLn} {nm : Int → Int} {r : Int} {u : zMem} (hG : zG0 u) (hC : zcv u w (zfl Ls)) (hn : u 24 = nm) (hst : zst u []) (hok : ∀ l ∈ Ls, zlnok l) (hw : zLw nm 0 Ls r) : ∃ u', zoW u u' ∧ lX7_work_1 23 (zbL w) 0 0 u = some (r, u') := by
  have hl := hC.2.1
  obtain ⟨m, hm⟩ : ∃ m : Nat, (zfl Ls).length + 1 + m = 1000000 := ⟨1000000 - ((zfl Ls).length + 1), by omega⟩
  obtain ⟨u', p1, p2⟩ := s7_lines (r := r) w0 w1 m Ls 0 u hG hC hn hst hok (fun k c h => by rw [Nat.zero_add]; exact h) (by omega) hw
  refine ⟨u', p1, ?_⟩
  rw [hm] at p2
  exact p2
