/-! ===== take, both loops ===== -/
def zdw (s : Int) : Nat → Int
  | 0 => s
  | n + 1 => zw32 (zw32 (zdw s n * 1103515245) + 12345)
set_option maxHeartbeats 400000 in
theorem zdw_S {s : Int} {n : Nat} : zw32 (zw32 (zdw s n * 1103515245) + 12345) = zdw s (n + 1) := rfl
def zdr (s : Int) (n : Nat) : Int := Int.tmod (zushr (zdw s (n + 1)) 8) 100
def zdo (a b l : Int) : Int := if a = b then 2 * l else l
set_option maxHeartbeats 400000 in
theorem zdo_t {a b l : Int} (h : a = b) : zdo a b l = 2 * l := if_pos h
set_option maxHeartbeats 400000 in
theorem zdo_f {a b l : Int} (h : ¬ a = b) : zdo a b l = l := if_neg h
set_option maxHeartbeats 400000 in
theorem zdo_b {a b l : Int} (h0 : 0 ≤ l) (h1 : l ≤ 30) : 0 ≤ zdo a b l ∧ zdo a b l ≤ 60 := by
  unfold zdo
  split <;> omega
set_option maxHeartbeats 400000 in
theorem zlt_su {f : Nat → Bool} {e : Nat → zEn} : ∀ n : Nat, (∀ i : Nat, i < n → 0 ≤ (e i).2.2.1 ∧ (e i).2.2.1 ≤ 60) → zSu (zlt f e n) ≤ 60 * n
  | 0, _ => Int.le_refl (0 : Int)
  | n + 1, h => by
    have ih := zlt_su (f := f) (e := e) n (fun i hi => h i (by omega))
    have hn := h n (by omega)
    cases hf : f n with
    | true =>
      rw [zlt_t hf, zSu_app]
      show zSu (zlt f e n) + ((e n).2.2.1 + 0) ≤ _
      omega
    | false =>
      rw [zlt_f hf]
      omega
set_option maxHeartbeats 400000 in
theorem zlk_of {N : Int} {L : List zEn} (h : zlok N L) (hs : zSu L ≤ 999) : zlk N L := ⟨h.1, fun e he => by
  obtain ⟨q1, q2, q3, q4⟩ := h.2.1 e he
  exact ⟨q1, q2, q3.1, q4⟩, hs, h.2.2⟩
set_option maxHeartbeats 400000 in
theorem z16 {n : Nat} (h : n < 1000000) : zw32 (16 + (n : Int)) = 16 + (n : Int) := zw32_id (by omega) (by omega)
set_option maxHeartbeats 400000 in
theorem zjC_ok {w o : Int → Int} {N : Int} : ∀ (S A : List zEn), zlk N (A ++ S) → zlk N (A ++ zjC w o S)
  | [], A, h => h
  | a :: l, A, h => by
    have h2 : zlk N ((A ++ [a]) ++ l) := by
      rw [List.append_assoc]
      exact h
    have ih := zjC_ok (w := w) (o := o) l (A ++ [a]) h2
    rw [List.append_assoc] at ih
    have e0 : zjC w o (a :: l) = zjs w o a (zjC w o l) := rfl
    rw [e0]
    cases hc : zjC w o l with
    | nil =>
      rw [hc] at ih
      exact ih
    | cons b m =>
      rw [hc] at ih
      have ih2 : zlk N (A ++ a :: b :: m) := ih
      by_cases q : zak w o a b
      · rw [zjs_t q]
        exact zlk_jo ih2
      · rw [zjs_f q]
        exact ih2
set_option maxHeartbeats 400000 in
theorem c_take {μ u0 : zMem} (hG : zG0 u0) (hS : zGS u0) (hd : zsd μ u0) {w : Int} {H : Int → Int} (hH : zhs μ w H) (w0 : 0 ≤ w) (w1 : w < 4) {p : Int} (h0 : 0 ≤ p) (h1 : p < 10) (hC : zpC u0 p []) {N : Nat} (hN : μ 6 1 = N) {s : Int} {f : Nat → Bool} (hf : ∀ n : Nat, f n = decide (¬ zdr s n ≥ H n)) {e : Nat → zEn} (he : ∀ n : Nat, n < N → e n = ((n : Int), u0 9 n, zdo (u0 8 n) (u0 (zbL w) 2) (u0 11 n), 0)) {hb : Int} (hhb : u0 (zbL w) 3 = hb) {wf of : Int → Int} (hw : ∀ i, u0 8 i = wf i) (ho : ∀ i, u0 10 i = of i) (hok : zlk N (zlt f e N)) : ∃ u', lX3_takeDown_1 21 w (zbP p) (zbL w) s 0 u0 = some (0, u') ∧ zpC u' p (zf3 hb (zf2 hb (zf1 wf of hb (zlt f e N)))) ∧ zoX p u0 u' ∧ zlok N (zf3 hb (zf2 hb (zf1 wf of hb (zlt f e N)))) ∧ zlok N (zf1 wf of hb (zlt f e N)) := by
  have hz : zbP p = 53 + 6 * p := rfl
  have hzL : zbL w = 26 + 2 * w := rfl
  have e06 : u0 6 1 = (N : Int) := (hd.1 _ _ (by omega) (by omega) (by omega)).trans hN
  have h16 := hS.2.1
  have ok1 : zlok N (zf1 wf of hb (zlt f e N)) := by
    unfold zf1
    split
    · exact zlk_ok hok
    · exact zlk_ok (zjC_ok (zlt f e N) [] hok)
  unfold lX3_takeDown_1
  refine zlg2 (G := fun R => ∃ u', R = some (0, u') ∧ zpC u' p (zf3 hb (zf2 hb (zf1 wf of hb (zlt f e N)))) ∧ zoX p u0 u' ∧ zlok N (zf3 hb (zf2 hb (zf1 wf of hb (zlt f e N)))) ∧ zlok N (zf1 wf of hb (zlt f e N))) (fun n z i u => z = zdw s n ∧ i = (n : Int) ∧ zpC u p (zlt f e n) ∧ zoX p u0 u) N (by omega) ?_ ?_ ⟨rfl, rfl, hC, zoX_r⟩
  · intro k n z i u hn hI
    obtain ⟨rfl, rfl, i1, i2⟩ := hI
    have hGu := zoX_G0 h0 h1 i2 hG
    have hdu := zoX_d h0 h1 i2
    have hSu := zGS_d hS hdu (i2 _ _ (by omega) (by omega) (by omega))
    obtain ⟨⟨u1, p1, p2⟩, -⟩ := hH.2 n (by omega) (by omega) u (zsd_t hd hdu) hGu hSu
    have hG1 := zsc_G0 p2 hGu
    have hC1 := zpC_s h0 h1 i1 p2
    have i3 : zoX p u0 u1 := zoX_t i2 (zoX_s p2)
    have e6 : u 6 1 = (N : Int) := (i2 _ _ (by omega) (by omega) (by omega)).trans e06
    have e61 : u1 6 1 = (N : Int) := (i3 _ _ (by omega) (by omega) (by omega)).trans e06
    have es := s5_size (μ := u)
    rw [e6] at es
    have cN : ¬ (n : Int) ≥ (N : Int) := by omega
    have n6 : n < 1000000 := by omega
    by_cases c : zdr s n ≥ H n
    · have hfn : f n = false := by rw [hf]; exact decide_eq_false (fun q => q c)
      have c' : Int.tmod (zushr (zdw s (n + 1)) 8) 100 ≥ H n := c
      refine ⟨zdw s (n + 1), ((n + 1 : Nat) : Int), u1, ⟨rfl, rfl, by rw [zlt_f hfn]; exact hC1, i3⟩, ?_⟩
      show zgf 3 0 21 u _ = _
      rw [gq_21_0 hGu, vq_6 es, if_neg cN, znz_ok (by decide), vq_21 p1, zdw_S, zjn_ok, if_pos c', zupn n6]
    · have hfn : f n = true := by rw [hf]; exact decide_eq_true c
      have c' : ¬ Int.tmod (zushr (zdw s (n + 1)) 8) 100 ≥ H n := c
      have pt : ∀ j : Int, 0 ≤ j → j < 4 → fX5_part 6 n j u1 = some (u0 (8 + j) n, u1) := fun j j0 j1 => by
        rw [s5_part hG1 (by omega), if_pos ⟨by omega, by omega, j0, j1⟩, i3 _ _ (by omega) (by omega) (by omega)]
      have p3 : fX5_part 6 n 3 u1 = some (u0 11 n, u1) := pt 3 (by decide) (by decide)
      have p0 : fX5_part 6 n 0 u1 = some (u0 8 n, u1) := pt 0 (by decide) (by decide)
      have p1' : fX5_part 6 n 1 u1 = some (u0 9 n, u1) := pt 1 (by decide) (by decide)
      have hself : fX4_isSelf (zbL w) (u0 8 n) u1 = some (if u0 8 n = u0 (zbL w) 2 then 1 else 0, u1) := by
        unfold fX4_isSelf
        rw [gfL w0 w1, show ((2 : Nat) : Int) = 2 from rfl, i3 _ _ (by omega) (by omega) (by omega)]
        by_cases q : u0 8 n = u0 (zbL w) 2
        · rw [if_neg (fun z => z q), zbl_1, if_pos q]
        · rw [if_pos q, zbl_0, if_neg q]
      have hln := zlt_len (f := f) (e := e) n
      obtain ⟨u2, a1, a2, a3⟩ := c_append hG1 h0 h1 hC1 (by omega) n (u0 9 n) (zdo (u0 8 n) (u0 (zbL w) 2) (u0 11 n))
      have hl := (zsayok hS (n := (n : Int)) (by omega) (by omega)).2.1
      refine ⟨zdw s (n + 1), ((n + 1 : Nat) : Int), u2, ⟨rfl, rfl, by rw [zlt_t hfn, he n hn]; exact a2, zoX_t i3 (zoX_C a3)⟩, ?_⟩
      have hz2 : -2147483648 ≤ 2 * u0 11 n ∧ 2 * u0 11 n < 2147483648 := ⟨by omega, by omega⟩
      show zgf 3 0 21 u _ = _
      rw [gq_21_0 hGu, vq_6 es, if_neg cN, znz_ok (by decide), vq_21 p1, zdw_S, zjn_ok, if_neg c', gq_21_0 hG1, vq_6 p3, gq_21_0 hG1, vq_6 p0, vcL_of w0 w1 hself, gq_21_0 hG1, vq_6 p1', zjn_ok]
      by_cases q : u0 8 n = u0 (zbL w) 2
      · rw [zdo_t q] at a1
        rw [if_pos q, if_neg (by decide)]
        dsimp only
        rw [zw32_id hz2.1 hz2.2, vcP_of h0 h1 a1, zupn n6]
      · rw [zdo_f q] at a1
        rw [if_neg q, if_pos rfl]
        dsimp only
        rw [vcP_of h0 h1 a1, zupn n6]
  · intro k z i u hI
    obtain ⟨rfl, rfl, i1, i2⟩ := hI
    have hGu := zoX_G0 h0 h1 i2 hG
    have e6 : u 6 1 = (N : Int) := (i2 _ _ (by omega) (by omega) (by omega)).trans e06
    have es := s5_size (μ := u)
    rw [e6] at es
    obtain ⟨u', g1, g2, g3, g4⟩ := c_follow hGu h0 h1 w0 w1 i1 e6 (by omega) hok (fun i => (i2 _ _ (by omega) (by omega) (by omega)).trans (hw i)) (fun i => (i2 _ _ (by omega) (by omega) (by omega)).trans (ho i)) ((i2 _ _ (by omega) (by omega) (by omega)).trans hhb)
    refine ⟨u', ?_, g2, zoX_t i2 (zoX_C g3), g4, ok1⟩
    show zgf 3 0 21 u _ = _
    rw [gq_21_0 hGu, vq_6 es, if_pos (Int.le_refl _), gq_21_0 hGu, vcP_of h0 h1 g1]
set_option maxHeartbeats 400000 in
theorem r_take {μ u0 : zMem} (hG : zG0 u0) (hS : zGS u0) (hd : zsd μ u0) {w : Int} {H : Int → Int} (hH : zhs μ w H) (w0 : 0 ≤ w) (w1 : w < 4) {p : Int} (h0 : 0 ≤ p) (h1 : p < 10) (hR : zpR u0 p []) {N : Nat} (hN : μ 6 1 = N) {s : Int} {f : Nat → Bool} (hf : ∀ n : Nat, f n = decide (¬ zdr s n ≥ H n)) {e : Nat → zEn} (he : ∀ n : Nat, n < N → e n = ((n : Int), u0 130 (16 + n), zdo (u0 130 n) (u0 135 w) (u0 130 (48 + n)), 0)) (hl30 : ∀ n : Nat, n < N → 0 ≤ u0 130 (48 + n) ∧ u0 130 (48 + n) ≤ 30) {hb : Int} (hhb : u0 136 w = hb) {wf of : Int → Int} (hw : ∀ i, 0 ≤ i → i < (N : Int) → u0 130 i = wf i) (ho : ∀ i, 0 ≤ i → i < (N : Int) → u0 130 (32 + i) = of i) (hok : zlk N (zlt f e N)) (hok1 : zlok N (zf1 wf of hb (zlt f e N))) : ∃ u', lX11_take_1 129 w p s 0 u0 = some (p, u') ∧ zpR u' p (zf3 hb (zf2 hb (zf1 wf of hb (zlt f e N)))) ∧ zoQ p u0 u' := by
  have e06 : u0 6 1 = (N : Int) := (hd.1 _ _ (by omega) (by omega) (by omega)).trans hN
  have h16 := hS.2.1
  have h6 : u0 129 6 = (N : Int) := hS.2.2.1.trans e06
  unfold lX11_take_1
  refine zlg2 (G := fun R => ∃ u', R = some (p, u') ∧ zpR u' p (zf3 hb (zf2 hb (zf1 wf of hb (zlt f e N)))) ∧ zoQ p u0 u') (fun n z i u => z = zdw s n ∧ i = (n : Int) ∧ zpR u p (zlt f e n) ∧ zoQ p u0 u) N (by omega) ?_ ?_ ⟨rfl, rfl, hR, zoQ_r⟩
  · intro k n z i u hn hI
    obtain ⟨rfl, rfl, i1, i2⟩ := hI
    have hGu := zoQ_G0 i2 hG
    have hdu := zoQ_d i2
    have hSu := zGS_d hS hdu (i2 _ _ (by omega) (by omega) (by omega))
    obtain ⟨-, u1, p1, p2⟩ := hH.2 n (by omega) (by omega) u (zsd_t hd hdu) hGu hSu
    have hG1 := zsc_G0 p2 hGu
    have hR1 := zpR_s i1 p2
    have i3 : zoQ p u0 u1 := zoQ_t i2 (zoQ_s p2)
    have e6 : u 129 6 = (N : Int) := (i2 _ _ (by omega) (by omega) (by omega)).trans h6
    have cN : ¬ (n : Int) ≥ (N : Int) := by omega
    have n6 : n < 1000000 := by omega
    by_cases c : zdr s n ≥ H n
    · have hfn : f n = false := by rw [hf]; exact decide_eq_false (fun q => q c)
      have c' : Int.tmod (zushr (zdw s (n + 1)) 8) 100 ≥ H n := c
      refine ⟨zdw s (n + 1), ((n + 1 : Nat) : Int), u1, ⟨rfl, rfl, by rw [zlt_f hfn]; exact hR1, i3⟩, ?_⟩
      show zgf 11 6 129 u _ = _
      rw [gf_129, show ((6 : Nat) : Int) = 6 from rfl, e6, if_neg cN, znz_ok (by decide), vq_129 p1, zdw_S, zjn_ok, if_pos c', zupn n6]
    · have hfn : f n = true := by rw [hf]; exact decide_eq_true c
      have c' : ¬ Int.tmod (zushr (zdw s (n + 1)) 8) 100 ≥ H n := c
      have x0 : 0 ≤ (n : Int) ∧ (n : Int) < 64 := ⟨by omega, by omega⟩
      have x1 : 0 ≤ 16 + (n : Int) ∧ 16 + (n : Int) < 64 := ⟨by omega, by omega⟩
      have x3 : 0 ≤ 48 + (n : Int) ∧ 48 + (n : Int) < 64 := ⟨by omega, by omega⟩
      have q0 : u1 130 n = u0 130 n := i3 _ _ (by omega) (by omega) (by omega)
      have q16 : u1 130 (16 + n) = u0 130 (16 + n) := i3 _ _ (by omega) (by omega) (by omega)
      have q48 : u1 130 (48 + n) = u0 130 (48 + n) := i3 _ _ (by omega) (by omega) (by omega)
      have q135 : u1 135 w = u0 135 w := i3 _ _ (by omega) (by omega) (by omega)
      have hln := zlt_len (f := f) (e := e) n
      obtain ⟨t, ht⟩ : ∃ t : Nat, t = (zlt f e n).length := ⟨_, rfl⟩
      have s1 := hR1.1
      obtain ⟨a2, a3⟩ := r_append hG1 h0 h1 hR1 (by omega) (e := e n)
      rw [← ht] at a2 a3 s1 hln
      rw [he n hn] at a2 a3
      have ep := r_puts hG1 h0 h1 (k := (t : Int)) (by omega) (by omega) (a := n) (b := u0 130 (16 + n)) (c := zdo (u0 130 n) (u0 135 w) (u0 130 (48 + n))) (d := 0) (Or.inl rfl)
      have hGp : zG0 (zpu u1 p t n (u0 130 (16 + n)) (zdo (u0 130 n) (u0 135 w) (u0 130 (48 + n))) 0) := zoR_G0 (zoR_pu (p := p) (by omega) (by omega)) hG1
      have s2 : zpu u1 p t n (u0 130 (16 + n)) (zdo (u0 130 n) (u0 135 w) (u0 130 (48 + n))) 0 141 p = (t : Int) := by
        rw [zpu_o (by omega)]
        exact s1
      have hl := hl30 n hn
      have hz2 : -2147483648 ≤ 2 * u0 130 (48 + n) ∧ 2 * u0 130 (48 + n) < 2147483648 := ⟨by omega, by omega⟩
      have t1 : -2147483648 ≤ (t : Int) + 1 ∧ (t : Int) + 1 < 2147483648 := ⟨by omega, by omega⟩
      refine ⟨zdw s (n + 1), ((n + 1 : Nat) : Int), _, ⟨rfl, rfl, by rw [zlt_t hfn, he n hn]; exact a2, zoQ_t i3 (zoQ_R a3)⟩, ?_⟩
      show zgf 11 6 129 u _ = _
      rw [gf_129, show ((6 : Nat) : Int) = 6 from rfl, e6, if_neg cN, znz_ok (by decide), vq_129 p1, zdw_S, zjn_ok, if_neg c', gq_129_0 hG1, al_130 x0.1 x0.2, q0, gq_129_10 hG1, al_135 w0 w1, q135, zjn_ok]
      by_cases q : u0 130 n = u0 135 w
      · rw [zdo_t q] at ep hGp s2 ⊢
        rw [if_neg (fun z => z q), gq_129_0 hG1, zw48 n6, al_130 x3.1 x3.2, q48]
        dsimp only
        rw [zw32_id hz2.1 hz2.2, gq_129_22 hG1, al_141 h0 h1, s1, gq_129_0 hG1, z16 n6, al_130 x1.1 x1.2, q16, vq_129 ep, gq_129_22 hGp, al_141 h0 h1, s2, zw32_id t1.1 t1.2, as_141 h0 h1, zupn n6]
      · rw [zdo_f q] at ep hGp s2 ⊢
        rw [if_pos q, gq_129_0 hG1, zw48 n6, al_130 x3.1 x3.2, q48]
        dsimp only
        rw [gq_129_22 hG1, al_141 h0 h1, s1, gq_129_0 hG1, z16 n6, al_130 x1.1 x1.2, q16, vq_129 ep, gq_129_22 hGp, al_141 h0 h1, s2, zw32_id t1.1 t1.2, as_141 h0 h1, zupn n6]
  · intro k z i u hI
    obtain ⟨rfl, rfl, i1, i2⟩ := hI
    have hGu := zoQ_G0 i2 hG
    have e6 : u 129 6 = (N : Int) := (i2 _ _ (by omega) (by omega) (by omega)).trans h6
    obtain ⟨u', g1, g2, g3⟩ := r_follow hGu h0 h1 w0 w1 i1 (N := N) (by omega) hok (fun i x y => (i2 _ _ (by omega) (by omega) (by omega)).trans (hw i x y)) (fun i x y => (i2 _ _ (by omega) (by omega) (by omega)).trans (ho i x y)) ((i2 _ _ (by omega) (by omega) (by omega)).trans hhb) hok1
    refine ⟨u', ?_, g2, zoQ_t i2 (zoQ_R g3)⟩
    show zgf 11 6 129 u _ = _
    rw [gf_129, show ((6 : Nat) : Int) = 6 from rfl, e6, if_pos (Int.le_refl _)]
    exact g1
