/-! ===== learnt ===== -/
set_option maxHeartbeats 400000 in
theorem zpcS_hi {f : Nat → Bool} {P : Nat} (h : ∀ j, P ≤ j → f j = false) : ∀ n, P ≤ n → zpcS f n = zpcS f P
  | 0, hn => by rw [show P = 0 by omega]
  | n + 1, hn => by
    by_cases e : P = n + 1
    · rw [e]
    · have ih := zpcS_hi h n (by omega)
      show zpcS f n + (f n).toNat = _
      rw [ih, h n (by omega)]
      rfl
set_option maxHeartbeats 400000 in
theorem zpc_P {a P : Nat} (hP : P ≤ 16) (ha : a < 2 ^ P) : zpc a = zpcS (zbi a) P := zpcS_hi (fun j hj => Nat.testBit_lt_two_pow (Nat.lt_of_lt_of_le ha (Nat.pow_le_pow_right (by decide) hj))) 16 hP
def zfT (a : Nat) (p : Int) : Int := if zbi a p.toNat = true then 1 else 0
set_option maxHeartbeats 400000 in
theorem zfT_t {a n : Nat} (h : zbi a n = true) : zfT a n = 1 := if_pos h
set_option maxHeartbeats 400000 in
theorem zfT_f {a n : Nat} (h : zbi a n = false) : zfT a n = 0 := if_neg (fun z => by
  have : true = false := z.symm.trans h
  cases this)
set_option maxHeartbeats 400000 in
theorem zfT_01 {a : Nat} (p : Int) : zfT a p = 0 ∨ zfT a p = 1 := by
  unfold zfT
  split
  · exact Or.inr rfl
  · exact Or.inl rfl
set_option maxHeartbeats 400000 in
theorem zfT_s {a : Nat} : ∀ n : Nat, zsm (zfT a) n = ((zpcS (zbi a) n : Nat) : Int)
  | 0 => rfl
  | n + 1 => by
    have ih := zfT_s (a := a) n
    rw [zsm_S, ih]
    show _ = ((zpcS (zbi a) n + (zbi a n).toNat : Nat) : Int)
    cases h : zbi a n with
    | true =>
      rw [zfT_t h]
      rfl
    | false =>
      rw [zfT_f h, Int.add_zero]
      rfl
def zfF (a : Nat) (q : Int → Int) (p : Int) : Int := if zbi a p.toNat = true ∧ 0 ≤ q p then 1 else 0
set_option maxHeartbeats 400000 in
theorem zfF_t {a n : Nat} {q : Int → Int} (h : zbi a n = true) (r : 0 ≤ q n) : zfF a q n = 1 := if_pos ⟨h, r⟩
set_option maxHeartbeats 400000 in
theorem zfF_f {a n : Nat} {q : Int → Int} (h : zbi a n = false) : zfF a q n = 0 := if_neg (fun z => by
  have : true = false := z.1.symm.trans h
  cases this)
set_option maxHeartbeats 400000 in
theorem zfF_g {a n : Nat} {q : Int → Int} (r : ¬ 0 ≤ q n) : zfF a q n = 0 := if_neg (fun z => r z.2)
set_option maxHeartbeats 400000 in
theorem zfF_01 {a : Nat} {q : Int → Int} (p : Int) : zfF a q p = 0 ∨ zfF a q p = 1 := by
  unfold zfF
  split
  · exact Or.inr rfl
  · exact Or.inl rfl
def zfO (a : Nat) (q : Int → Int) (h p : Int) : Int := h * zfT a p - 100 * zfF a q p
set_option maxHeartbeats 400000 in
theorem zfO_s {a : Nat} {q : Int → Int} {h : Int} : ∀ n : Nat, zsm (zfO a q h) n = h * zsm (zfT a) n - 100 * zsm (zfF a q) n
  | 0 => by
    show (0 : Int) = h * 0 - 100 * 0
    omega
  | n + 1 => by
    have ih := zfO_s (a := a) (q := q) (h := h) n
    rw [zsm_S, zsm_S, zsm_S, ih, Int.mul_add]
    show _ + (h * zfT a n - 100 * zfF a q n) = _
    omega
set_option maxHeartbeats 400000 in
theorem zfO_b {a : Nat} {q : Int → Int} {h : Int} (h0 : 0 ≤ h) (h1 : h ≤ 100) : ∀ n : Nat, -(100 * (n : Int)) ≤ zsm (zfO a q h) n ∧ zsm (zfO a q h) n ≤ 100 * n
  | 0 => ⟨(by decide : -(100 * ((0 : Nat) : Int)) ≤ 0), (by decide : (0 : Int) ≤ 100 * ((0 : Nat) : Int))⟩
  | n + 1 => by
    have ih := zfO_b (a := a) (q := q) h0 h1 n
    have e : zsm (zfO a q h) (n + 1) = zsm (zfO a q h) n + (h * zfT a n - 100 * zfF a q n) := rfl
    rcases zfT_01 (a := a) (n : Int) with t | t <;> rcases zfF_01 (a := a) (q := q) (n : Int) with f | f <;> rw [t, f] at e <;> omega
def zaz (x : Int) : Int := if 0 ≤ x then x else -x
set_option maxHeartbeats 400000 in
theorem zaz_z {x : Int} (h0 : -1000000 ≤ x) (h1 : x ≤ 1000000) : zab x = zaz x := by
  unfold zab zaz
  by_cases c : 0 ≤ x
  · rw [if_pos c, if_pos c]
  · rw [if_neg c, if_neg c, zw32_id (by omega) (by omega)]
    omega
set_option maxHeartbeats 400000 in
theorem zaz_b {x c : Int} (h0 : -c ≤ x) (h1 : x ≤ c) : 0 ≤ zaz x ∧ zaz x ≤ c := by
  unfold zaz
  split <;> omega
set_option maxHeartbeats 400000 in
theorem s11_size {μ : zMem} {x : Int} (h0 : -1000000 ≤ x) (h1 : x ≤ 1000000) : fX11_size x μ = some (zaz x, μ) := by
  unfold fX11_size zaz
  by_cases c : 0 ≤ x
  · rw [if_pos (show x ≥ 0 from c), if_pos c]
  · rw [if_neg (show ¬ x ≥ 0 from c), if_neg c, zw32_id (by omega) (by omega)]
set_option maxHeartbeats 400000 in
theorem s1_pw {μ u : zMem} (hG : zG0 μ) (hP : zGP μ) (hu : zsc μ u) {P a : Nat} (hPn : μ 34 3 = P) (ha : a < 2147483648) (x : Int) {q : Int → Int} (hq : ∀ p, q p = zpo μ p x) : fX1_papersWith_ 34 x a u = some (zsm (zfF a q) P, u) := by
  have h10 := hP.1.2.1
  have hG1 := zsc_G0 hu hG
  have e34 : u 34 3 = (P : Int) := (hu _ _ (by omega) (by omega) (by omega) (by omega) (by omega)).trans hPn
  have hb := zsm_b (f := zfF a q) zfF_01
  unfold fX1_papersWith_
  refine zlA (zsm (zfF a q)) rfl P (by omega) (fun k n hn => ?_) (fun k => ?_)
  · have c : ¬ (n : Int) ≥ (P : Int) := by omega
    have e6 := (zsc_pl hG hP hu (p := (n : Int)) (by omega) (by omega) x).1
    rw [← hq] at e6
    have hs := hb n
    have n0 : (0 : Int) ≤ n := by omega
    have n1 : (n : Int) < 10 := by omega
    cases hbn : zbi a n with
    | false =>
      have hb1 := zbi_f ha (by omega) hbn
      have hp : Unit → zw32 (((n : Nat) : Int) + 1) = ((n + 1 : Nat) : Int) := fun _ => zupn (by omega)
      show zgf 1 3 34 u _ = _
      rw [gf_34, show ((3 : Nat) : Int) = 3 from rfl, e34, if_neg c, zjn_ok, hb1, if_pos rfl, zsm_S, zfF_f hbn, Int.add_zero, hp ()]
    | true =>
      have hb1 := zbi_t ha (by omega) hbn
      by_cases r : 0 ≤ q n
      · have r2 : ¬ q n < 0 := by omega
        have hw : Unit → zw32 (zsm (zfF a q) n + 1) = zsm (zfF a q) n + 1 := fun _ => zw32_id (by omega) (by omega)
        have hp : Unit → zw32 (((n : Nat) : Int) + 1) = ((n + 1 : Nat) : Int) := fun _ => zupn (by omega)
        show zgf 1 3 34 u _ = _
        rw [gf_34, show ((3 : Nat) : Int) = 3 from rfl, e34, if_neg c, zjn_ok, hb1, if_neg (by decide), gq_34_1 hG1, aq_35 hG1 n0 n1, vcP_of n0 n1 e6, if_neg r2, zsm_S, zfF_t hbn r, hw (), hp ()]
      · have r2 : q n < 0 := by omega
        have hp : Unit → zw32 (((n : Nat) : Int) + 1) = ((n + 1 : Nat) : Int) := fun _ => zupn (by omega)
        show zgf 1 3 34 u _ = _
        rw [gf_34, show ((3 : Nat) : Int) = 3 from rfl, e34, if_neg c, zjn_ok, hb1, if_neg (by decide), gq_34_1 hG1, aq_35 hG1 n0 n1, vcP_of n0 n1 e6, if_pos r2, zsm_S, zfF_g r, Int.add_zero, hp ()]
  · show zgf 1 3 34 u _ = _
    rw [gf_34, show ((3 : Nat) : Int) = 3 from rfl, e34, if_pos (Int.le_refl _)]
set_option maxHeartbeats 400000 in
theorem s11_learnt_1 {μ v : zMem} (hG : zG0 μ) (hS : zGS μ) (hP : zGP μ) {H : Int → Int → Int} (hH : zhd μ H) (hv : zsc μ v) {P a w i : Nat} (hPn : μ 34 3 = P) (ha : a < 2147483648) (hw : (w : Int) < μ 21 3) (hi : (i : Int) < μ 6 1) (k14 : Int → Int → zMem → zRs) (v11 : Int) {q : Int → Int} (hq : ∀ p, q p = zpo μ p i) : ∃ u', zsc μ u' ∧ lX11_learnt_1 129 a w v11 i k14 0 0 v = k14 (zw32 (v11 + zaz (zsm (zfO a q (H w i)) P))) ((i + 1 : Nat) : Int) u' := by
  have h10 := hP.1.2.1
  have h20 := hP.1.2.2
  have h16 := hS.2.1
  obtain ⟨h, hh⟩ : ∃ h, h = H w i := ⟨_, rfl⟩
  have hh2 := hH.1 w i
  have hH2 := (hH.2 w i (by omega) hw (by omega) hi).2
  rw [← hh] at hh2 hH2 ⊢
  have hb := zfO_b (a := a) (q := q) hh2.1 hh2.2
  obtain ⟨S, hS2⟩ : ∃ S : Nat → Int, ∀ n, S n = zsm (zfO a q h) n := ⟨_, fun _ => rfl⟩
  have hSS : ∀ n : Nat, S (n + 1) = S n + (h * zfT a n - 100 * zfF a q n) := fun n => by
    rw [hS2, hS2]
    rfl
  have hS0 : S 0 = 0 := hS2 0
  rw [← hS2]
  have hb2 : ∀ n : Nat, -(100 * (n : Int)) ≤ S n ∧ S n ≤ 100 * n := fun n => by
    rw [hS2]
    exact hb n
  clear hb hS2
  unfold lX11_learnt_1
  refine zlg2 (G := fun R => ∃ u', zsc μ u' ∧ R = k14 (zw32 (v11 + zaz (S P))) ((i + 1 : Nat) : Int) u') (fun n x y u => x = S n ∧ y = n ∧ zsc μ u) P (by omega) ?_ ?_ ⟨hS0.symm, rfl, hv⟩
  · intro k n x y u hn hI
    obtain ⟨rfl, rfl, hu⟩ := hI
    have e20 : u 129 20 = (P : Int) := ((hu _ _ (by omega) (by omega) (by omega) (by omega) (by omega)).trans h20).trans hPn
    have c : ¬ (n : Int) ≥ (P : Int) := by omega
    have hs := hb2 n
    have hn1 := hSS n
    cases hbn : zbi a n with
    | false =>
      have hb1 := zbi_f ha (by omega) hbn
      rw [zfT_f hbn, zfF_f hbn] at hn1
      have hz : S (n + 1) = S n := by omega
      have hp : Unit → zw32 (((n : Nat) : Int) + 1) = ((n + 1 : Nat) : Int) := fun _ => zupn (by omega)
      refine ⟨S (n + 1), ((n + 1 : Nat) : Int), u, ⟨rfl, rfl, hu⟩, ?_⟩
      show zgf 11 20 129 u _ = _
      rw [gf_129, show ((20 : Nat) : Int) = 20 from rfl, e20, if_neg c, zjn_ok, hb1, if_pos (by decide), hp (), hz]
    | true =>
      have hb1 := zbi_t ha (by omega) hbn
      obtain ⟨u1, p1, p2⟩ := hH2 u hu
      have q1 := (zsc_pl hG hP p2 (p := (n : Int)) (by omega) (by omega) i).2
      rw [← hq] at q1
      by_cases r : 0 ≤ q n
      · rw [zb_t r] at q1
        rw [zfT_t hbn, zfF_t hbn r] at hn1
        have hz : S (n + 1) = S n + (h - 100) := by omega
        have hw1 : Unit → zw32 (h - 100) = h - 100 := fun _ => zw32_id (by omega) (by omega)
        have hw2 : Unit → zw32 (S n + (h - 100)) = S n + (h - 100) := fun _ => zw32_id (by omega) (by omega)
        have hp : Unit → zw32 (((n : Nat) : Int) + 1) = ((n + 1 : Nat) : Int) := fun _ => zupn (by omega)
        refine ⟨S (n + 1), ((n + 1 : Nat) : Int), u1, ⟨rfl, rfl, p2⟩, ?_⟩
        show zgf 11 20 129 u _ = _
        rw [gf_129, show ((20 : Nat) : Int) = 20 from rfl, e20, if_neg c, zjn_ok, hb1, if_neg (by decide), vq_129 p1, vq_129 q1, zjn_ok, if_neg (by decide)]
        dsimp only
        rw [hw1 (), hw2 (), hp (), hz]
      · rw [zb_f r] at q1
        rw [zfT_t hbn, zfF_g r] at hn1
        have hz : S (n + 1) = S n + (h - 0) := by omega
        have hw1 : Unit → zw32 (h - 0) = h - 0 := fun _ => zw32_id (by omega) (by omega)
        have hw2 : Unit → zw32 (S n + (h - 0)) = S n + (h - 0) := fun _ => zw32_id (by omega) (by omega)
        have hp : Unit → zw32 (((n : Nat) : Int) + 1) = ((n + 1 : Nat) : Int) := fun _ => zupn (by omega)
        refine ⟨S (n + 1), ((n + 1 : Nat) : Int), u1, ⟨rfl, rfl, p2⟩, ?_⟩
        show zgf 11 20 129 u _ = _
        rw [gf_129, show ((20 : Nat) : Int) = 20 from rfl, e20, if_neg c, zjn_ok, hb1, if_neg (by decide), vq_129 p1, vq_129 q1, zjn_ok, if_pos rfl]
        dsimp only
        rw [hw1 (), hw2 (), hp (), hz]
  · intro k x y u hI
    obtain ⟨rfl, rfl, hu⟩ := hI
    have e20 : u 129 20 = (P : Int) := ((hu _ _ (by omega) (by omega) (by omega) (by omega) (by omega)).trans h20).trans hPn
    have hs := hb2 P
    have hz := s11_size (μ := u) (x := S P) (by omega) (by omega)
    have hp : Unit → zw32 (((i : Nat) : Int) + 1) = ((i + 1 : Nat) : Int) := fun _ => zupn (by omega)
    refine ⟨u, hu, ?_⟩
    show zgf 11 20 129 u _ = _
    rw [gf_129, show ((20 : Nat) : Int) = 20 from rfl, e20, if_pos (Int.le_refl _), zcall_of hz, hp ()]
/-- how far a writer is off at one saying -/
def zfz (μ : zMem) (H : Int → Int → Int) (a P : Nat) (w i : Int) : Int := zaz (zsm (zfO a (fun p => zpo μ p i) (H w i)) P)
set_option maxHeartbeats 400000 in
theorem zfz_b {μ : zMem} {H : Int → Int → Int} (hH : zhd μ H) {a P : Nat} (hP : P ≤ 10) {w i : Int} : 0 ≤ zfz μ H a P w i ∧ zfz μ H a P w i ≤ 1000 := by
  have := zfO_b (a := a) (q := fun p => zpo μ p i) (hH.1 w i).1 (hH.1 w i).2 P
  exact zaz_b (by omega) (by omega)
def zfw (μ : zMem) (H : Int → Int → Int) (a P N : Nat) (w : Nat) : Int := zsm (zfz μ H a P w) N
def zlu (f : Nat → Int) (n : Nat) (s : Int × Int) : Int × Int := if f n ≥ s.2 then s else ((n : Int), f n)
set_option maxHeartbeats 400000 in
theorem zlu_t {f : Nat → Int} {n : Nat} {s : Int × Int} (h : f n ≥ s.2) : zlu f n s = s := if_pos h
set_option maxHeartbeats 400000 in
theorem zlu_f {f : Nat → Int} {n : Nat} {s : Int × Int} (h : ¬ f n ≥ s.2) : zlu f n s = ((n : Int), f n) := if_neg h
def zlv (f : Nat → Int) (n : Nat) (s : Int × Int) : Int × Int := if s.1 < 0 then ((n : Int), f n) else zlu f n s
set_option maxHeartbeats 400000 in
theorem zlv_t {f : Nat → Int} {n : Nat} {s : Int × Int} (h : s.1 < 0) : zlv f n s = ((n : Int), f n) := if_pos h
set_option maxHeartbeats 400000 in
theorem zlv_f {f : Nat → Int} {n : Nat} {s : Int × Int} (h : ¬ s.1 < 0) : zlv f n s = zlu f n s := if_neg h
def zlr (f : Nat → Int) : Nat → Int × Int
  | 0 => (-1, 0)
  | n + 1 => zlv f n (zlr f n)
def zlo (f : Nat → Int) : Nat → Int × Int
  | 0 => (0, f 0)
  | n + 1 => zlu f (n + 1) (zlo f n)
set_option maxHeartbeats 400000 in
theorem zlo_c {f : Nat → Int} : ∀ n : Nat, zlr f (n + 1) = zlo f n ∧ ∃ m : Nat, m ≤ n ∧ zlo f n = ((m : Int), f m)
  | 0 => ⟨zlv_t (show (-1 : Int) < 0 by decide), 0, Nat.le_refl _, rfl⟩
  | n + 1 => by
    obtain ⟨i1, m, hm, i2⟩ := zlo_c (f := f) n
    have e : zlr f (n + 1 + 1) = zlv f (n + 1) (zlr f (n + 1)) := rfl
    have e2 : zlo f (n + 1) = zlu f (n + 1) (zlo f n) := rfl
    have hs : ¬ (zlo f n).1 < 0 := by
      rw [i2]
      show ¬ (m : Int) < 0
      omega
    rw [e, e2, i1, zlv_f hs]
    refine ⟨rfl, ?_⟩
    by_cases c : f (n + 1) ≥ (zlo f n).2
    · rw [zlu_t c]
      exact ⟨m, by omega, i2⟩
    · rw [zlu_f c]
      exact ⟨n + 1, Nat.le_refl _, rfl⟩
set_option maxHeartbeats 400000 in
theorem s11_learnt_2 {μ v : zMem} (hG : zG0 μ) (hS : zGS μ) (hP : zGP μ) {H : Int → Int → Int} (hH : zhd μ H) (hv : zsc μ v) {P a w N : Nat} (hPn : μ 34 3 = P) (hN : μ 6 1 = N) (ha : a < 2147483648) (hw : (w : Int) < μ 21 3) (hw4 : w < 4) (k9 : Int → Int → Int → zMem → zRs) (s : Int × Int) {f : Nat → Int} (hf : f w = zfw μ H a P N w) : ∃ u', zsc μ u' ∧ lX11_learnt_2 129 a s.1 s.2 w k9 0 0 v = k9 (zlv f w s).1 (zlv f w s).2 ((w + 1 : Nat) : Int) u' := by
  have h10 := hP.1.2.1
  have h16 := hS.2.1
  have h6 := hS.2.2.1
  have hb := zsm_le (f := zfz μ H a P w) (c := 1000) (N := N) (fun i _ _ => zfz_b hH (by omega))
  unfold lX11_learnt_2
  refine zlg2 (G := fun R => ∃ u', zsc μ u' ∧ R = k9 (zlv f w s).1 (zlv f w s).2 ((w + 1 : Nat) : Int) u') (fun n x y u => x = zsm (zfz μ H a P w) n ∧ y = n ∧ zsc μ u) N (by omega) ?_ ?_ ⟨rfl, rfl, hv⟩
  · intro k n x y u hn hI
    obtain ⟨rfl, rfl, hu⟩ := hI
    have e6 : u 129 6 = (N : Int) := ((hu _ _ (by omega) (by omega) (by omega) (by omega) (by omega)).trans h6).trans hN
    have c : ¬ (n : Int) ≥ (N : Int) := by omega
    have hs := hb (n + 1) (by omega)
    have hz : zsm (zfz μ H a P w) (n + 1) = zsm (zfz μ H a P w) n + zfz μ H a P w n := rfl
    rw [hz] at hs
    obtain ⟨u', p1, p2⟩ := s11_learnt_1 hG hS hP hH hu (w := w) (i := n) hPn ha hw (by omega) k (zsm (zfz μ H a P w) n) (q := fun p => zpo μ p n) (fun _ => rfl)
    have hw1 : Unit → zw32 (zsm (zfz μ H a P w) n + zfz μ H a P w n) = zsm (zfz μ H a P w) n + zfz μ H a P w n := fun _ => zw32_id (by omega) (by omega)
    refine ⟨zsm (zfz μ H a P w) (n + 1), ((n + 1 : Nat) : Int), u', ⟨rfl, rfl, p1⟩, ?_⟩
    show zgf 11 6 129 u _ = _
    rw [gf_129, show ((6 : Nat) : Int) = 6 from rfl, e6, if_neg c, hz, ← hw1 ()]
    exact p2
  · intro k x y u hI
    obtain ⟨rfl, rfl, hu⟩ := hI
    have e6 : u 129 6 = (N : Int) := ((hu _ _ (by omega) (by omega) (by omega) (by omega) (by omega)).trans h6).trans hN
    have hz : zsm (zfz μ H a P w) N = f w := hf.symm
    have hp : Unit → zw32 (((w : Nat) : Int) + 1) = ((w + 1 : Nat) : Int) := fun _ => zupn (by omega)
    refine ⟨u, hu, ?_⟩
    show zgf 11 6 129 u _ = _
    rw [gf_129, show ((6 : Nat) : Int) = 6 from rfl, e6, if_pos (Int.le_refl _), zjn_ok, zjn_ok, hz, hp ()]
    by_cases d : s.1 < 0
    · rw [if_pos d, zlv_t d]
    · by_cases e : f w ≥ s.2
      · rw [if_neg d, if_pos e, zlv_f d, zlu_t e]
      · rw [if_neg d, if_neg e, zlv_f d, zlu_f e]
set_option maxHeartbeats 400000 in
theorem s11_learnt_3 {μ v : zMem} (hG : zG0 μ) (hS : zGS μ) (hP : zGP μ) {H : Int → Int → Int} (hH : zhd μ H) (hv : zsc μ v) {P a W N : Nat} (hPn : μ 34 3 = P) (hN : μ 6 1 = N) (ha : a < 2147483648) (hW : μ 21 3 = W) (hW3 : μ 129 9 = μ 21 3) (h4 : W ≤ 4) (x : Int) {f : Nat → Int} (hf : ∀ w, f w = zfw μ H a P N w) : ∃ u', zsc μ u' ∧ lX11_learnt_3 129 a x (-1) 0 0 v = some (if x ≠ 0 then (zlr f W).2 else (zlr f W).1, u') := by
  unfold lX11_learnt_3
  refine zlg3 (G := fun R => ∃ u', zsc μ u' ∧ R = some (if x ≠ 0 then (zlr f W).2 else (zlr f W).1, u')) (fun n a b c u => a = (zlr f n).1 ∧ b = (zlr f n).2 ∧ c = (n : Int) ∧ zsc μ u) W (by omega) ?_ ?_ ⟨rfl, rfl, rfl, hv⟩
  · intro k n a' b' c' u hn hI
    obtain ⟨rfl, rfl, rfl, hu⟩ := hI
    have e9 : u 129 9 = (W : Int) := ((hu _ _ (by omega) (by omega) (by omega) (by omega) (by omega)).trans hW3).trans hW
    have c : ¬ (n : Int) ≥ (W : Int) := by omega
    obtain ⟨u', p1, p2⟩ := s11_learnt_2 hG hS hP hH hu (w := n) hPn hN ha (by omega) (by omega) k (zlr f n) (hf n)
    refine ⟨_, _, _, u', ⟨rfl, rfl, rfl, p1⟩, ?_⟩
    show zgf 11 9 129 u _ = _
    rw [gf_129, show ((9 : Nat) : Int) = 9 from rfl, e9, if_neg c]
    exact p2
  · intro k a' b' c' u hI
    obtain ⟨rfl, rfl, rfl, hu⟩ := hI
    have e9 : u 129 9 = (W : Int) := ((hu _ _ (by omega) (by omega) (by omega) (by omega) (by omega)).trans hW3).trans hW
    refine ⟨u, hu, ?_⟩
    show zgf 11 9 129 u _ = _
    rw [gf_129, show ((9 : Nat) : Int) = 9 from rfl, e9, if_pos (Int.le_refl _)]
    by_cases d : x ≠ 0
    · rw [if_pos d, if_pos d]
    · rw [if_neg d, if_neg d]
set_option maxHeartbeats 400000 in
theorem zoff {h T F : Int} (h0 : 0 ≤ h) (h1 : h ≤ 100) (t0 : 0 ≤ T) (t1 : T ≤ 10) (f0 : 0 ≤ F) (f1 : F ≤ 10) : zab (zw32 (zw32 (h * T) - zw32 (100 * F))) = zaz (h * T - 100 * F) := by
  have a1 : 0 ≤ h * T := Int.mul_nonneg h0 t0
  have a2 : h * T ≤ 100 * 10 := Int.mul_le_mul h1 t1 t0 (by decide)
  rw [zw32_id (x := h * T) (by omega) (by omega), zw32_id (x := 100 * F) (by omega) (by omega), zw32_id (by omega) (by omega)]
  exact zaz_z (by omega) (by omega)
set_option maxHeartbeats 400000 in
theorem s3_offOf {μ v : zMem} (hG : zG0 μ) (hS : zGS μ) (hP : zGP μ) {H : Int → Int → Int} (hH : zhd μ H) (hv : zsc μ v) {P a w N : Nat} (hPn : μ 34 3 = P) (hN : μ 6 1 = N) (ha : a < 2 ^ P) (hw : (w : Int) < μ 21 3) {f : Nat → Int} (hf : f w = zfw μ H a P N w) : ∃ u', zsc μ u' ∧ fX3_offOf 21 w a 34 v = some (f w, u') := by
  have h10 := hP.1.2.1
  have h16 := hS.2.1
  have ha10 : a < 1024 := Nat.lt_of_lt_of_le ha (Nat.pow_le_pow_right (n := 2) (by decide) (show P ≤ 10 by omega))
  have hT : ((zpc a : Nat) : Int) = zsm (zfT a) P := by rw [zfT_s, zpc_P (by omega) ha]
  have hTb := zsm_b (f := zfT a) zfT_01 P
  have hb := zsm_le (f := zfz μ H a P w) (c := 1000) (N := N) (fun i _ _ => zfz_b hH (by omega))
  rw [eX3_offOf, zcall_of (zbitc (by omega)), hT]
  unfold lX3_offOf_1
  refine zlg2 (G := fun R => ∃ u', zsc μ u' ∧ R = some (f w, u')) (fun n x y u => x = zsm (zfz μ H a P w) n ∧ y = n ∧ zsc μ u) N (by omega) ?_ ?_ ⟨rfl, rfl, hv⟩
  · intro k n x y u hn hI
    obtain ⟨rfl, rfl, hu⟩ := hI
    have e6 : u 6 1 = (N : Int) := (hu _ _ (by omega) (by omega) (by omega) (by omega) (by omega)).trans hN
    have c : ¬ (n : Int) ≥ (N : Int) := by omega
    have hG1 := zsc_G0 hu hG
    have hs := hb (n + 1) (by omega)
    have hz : zsm (zfz μ H a P w) (n + 1) = zsm (zfz μ H a P w) n + zfz μ H a P w n := rfl
    rw [hz] at hs
    obtain ⟨u1, p1, p2⟩ := (hH.2 w n (by omega) hw (by omega) (by omega)).1 u hu
    have q1 := s1_pw hG hP p2 hPn (show a < 2147483648 by omega) n (q := fun p => zpo μ p n) (fun _ => rfl)
    have hFb := zsm_b (f := zfF a (fun p => zpo μ p n)) zfF_01 P
    have hh := hH.1 w n
    have ho := zoff hh.1 hh.2 hTb.1 (by omega) hFb.1 (by omega)
    rw [← zfO_s] at ho
    have ho2 : zab (zw32 (zw32 (H w n * zsm (zfT a) P) - zw32 (100 * zsm (zfF a (fun p => zpo μ p n)) P))) = zfz μ H a P w n := ho
    clear ho
    have hw1 : Unit → zw32 (zsm (zfz μ H a P w) n + zfz μ H a P w n) = zsm (zfz μ H a P w) n + zfz μ H a P w n := fun _ => by
      clear ho2
      exact zw32_id (by omega) (by omega)
    have hp : Unit → zw32 ((n : Int) + 1) = ((n + 1 : Nat) : Int) := fun _ => by
      clear ho2 hw1
      exact zupn (by omega)
    refine ⟨zsm (zfz μ H a P w) (n + 1), ((n + 1 : Nat) : Int), u1, ⟨rfl, rfl, p2⟩, ?_⟩
    show zgf 3 0 21 u _ = _
    rw [gq_21_0 hG1, vq_6 s5_size, e6, if_neg c, vq_21 p1, vq_34 q1, ho2, hw1 (), hp (), hz]
  · intro k x y u hI
    obtain ⟨rfl, rfl, hu⟩ := hI
    have e6 : u 6 1 = (N : Int) := (hu _ _ (by omega) (by omega) (by omega) (by omega) (by omega)).trans hN
    have hG1 := zsc_G0 hu hG
    have hz : zsm (zfz μ H a P w) N = f w := hf.symm
    refine ⟨u, hu, ?_⟩
    show zgf 3 0 21 u _ = _
    rw [gq_21_0 hG1, vq_6 s5_size, e6, if_pos (Int.le_refl _), hz]
set_option maxHeartbeats 400000 in
theorem s3_leastOff {μ v : zMem} {x : Int} {f : Nat → Int} {W V : Nat} (hW : μ 21 3 = W) (hV : W = V + 1) (h4 : W ≤ 4) (hf : ∀ n : Nat, n < W → ∀ u, zsc μ u → ∃ u', zsc μ u' ∧ fX3_offOf 21 n x 34 u = some (f n, u')) (hv : zsc μ v) : ∃ u', zsc μ u' ∧ fX3_leastOff 21 x 34 v = some ((zlo f V).1, u') := by
  obtain ⟨u0, q1, q2⟩ := hf 0 (by omega) v hv
  have q3 : fX3_offOf 21 0 x 34 v = some (f 0, u0) := q2
  rw [eX3_leastOff, vq_21 q3]
  unfold lX3_leastOff_1
  refine zlg3 (G := fun R => ∃ u', zsc μ u' ∧ R = some ((zlo f V).1, u')) (fun n x y z u => x = (zlo f n).1 ∧ y = (zlo f n).2 ∧ z = ((n + 1 : Nat) : Int) ∧ zsc μ u) V (by omega) ?_ ?_ ⟨rfl, rfl, rfl, q1⟩
  · intro k n x' y z u hn hI
    obtain ⟨rfl, rfl, rfl, hu⟩ := hI
    have e21 : u 21 3 = (W : Int) := (hu _ _ (by omega) (by omega) (by omega) (by omega) (by omega)).trans hW
    obtain ⟨u', p1, p2⟩ := hf (n + 1) (by omega) u hu
    have c : ¬ ((n + 1 : Nat) : Int) ≥ (W : Int) := by omega
    have hz : zlo f (n + 1) = zlu f (n + 1) (zlo f n) := rfl
    have hp : Unit → zw32 (((n + 1 : Nat) : Int) + 1) = ((n + 1 + 1 : Nat) : Int) := fun _ => zupn (by omega)
    by_cases d : f (n + 1) ≥ (zlo f n).2
    · refine ⟨(zlo f n).1, (zlo f n).2, ((n + 1 + 1 : Nat) : Int), u', ⟨by rw [hz, zlu_t d], by rw [hz, zlu_t d], rfl, p1⟩, ?_⟩
      show zgf 3 3 21 u _ = _
      rw [gf_21, show ((3 : Nat) : Int) = 3 from rfl, e21, if_neg c, vq_21 p2, zjn_ok, if_pos d, hp ()]
    · refine ⟨((n + 1 : Nat) : Int), f (n + 1), ((n + 1 + 1 : Nat) : Int), u', ⟨by rw [hz, zlu_f d], by rw [hz, zlu_f d], rfl, p1⟩, ?_⟩
      show zgf 3 3 21 u _ = _
      rw [gf_21, show ((3 : Nat) : Int) = 3 from rfl, e21, if_neg c, vq_21 p2, zjn_ok, if_neg d, hp ()]
  · intro k x' y z u hI
    obtain ⟨rfl, rfl, rfl, hu⟩ := hI
    have e21 : u 21 3 = (W : Int) := (hu _ _ (by omega) (by omega) (by omega) (by omega) (by omega)).trans hW
    have c : ((V + 1 : Nat) : Int) ≥ (W : Int) := by omega
    refine ⟨u, hu, ?_⟩
    show zgf 3 3 21 u _ = _
    rw [gf_21, show ((3 : Nat) : Int) = 3 from rfl, e21, if_pos c]
set_option maxHeartbeats 400000 in
theorem op_learnt {μ : zMem} (hG : zG0 μ) (hS : zGS μ) (hW : zGW μ) (hP : zGP μ) (x c : Int) (hx : x < 2147483648) : ∃ r μ1 μ2, fX10_learnt 5 x c μ = some (r, μ1) ∧ fX11_learnt 129 x c μ1 = some (r, μ2) ∧ zsc μ μ2 := by
  obtain ⟨p0, p10, p20⟩ := hP.1
  obtain ⟨w0, w4, w9⟩ := hW.1
  have h16 := hS.2.1
  have h00 := hS.1
  by_cases hx1 : x < 1
  · refine ⟨-1, μ, μ, ?_, ?_, zsc_r⟩
    · unfold fX10_learnt
      rw [if_pos hx1]
    · rw [eX11_learnt, if_pos hx1]
  obtain ⟨a, rfl⟩ : ∃ a : Nat, x = a := ⟨x.toNat, by omega⟩
  obtain ⟨P, hPn⟩ : ∃ P : Nat, μ 34 3 = P := ⟨(μ 34 3).toNat, by omega⟩
  have e34 : fX1_size 34 μ = some ((P : Int), μ) := by
    unfold fX1_size
    rw [gf_34, show ((3 : Nat) : Int) = 3 from rfl, hPn]
  have e20 : ∀ u, zsc μ u → u 129 20 = (P : Int) := fun u hu => ((hu _ _ (by omega) (by omega) (by omega) (by omega) (by omega)).trans p20).trans hPn
  have hsh1 : zshl 1 (P : Int) = ((2 ^ P : Nat) : Int) := zshl_nat (by omega)
  have hsh2 : zshr (a : Int) (P : Int) = ((a / 2 ^ P : Nat) : Int) := zshr_nat (by omega) (by omega)
  have hpos : 0 < 2 ^ P := Nat.two_pow_pos P
  by_cases hb : a < 2 ^ P
  rotate_left
  · have hd : 0 < a / 2 ^ P := Nat.div_pos (by omega) hpos
    have c1 : (a : Int) ≥ zshl 1 (P : Int) := by rw [hsh1]; omega
    have c2 : zshr (a : Int) (P : Int) ≠ 0 := by rw [hsh2]; omega
    refine ⟨-1, μ, μ, ?_, ?_, zsc_r⟩
    · unfold fX10_learnt
      rw [if_neg hx1, gq_5_4 hG, vq_34 e34, if_pos c1]
    · rw [eX11_learnt, if_neg hx1, gf_129, show ((20 : Nat) : Int) = 20 from rfl, e20 μ zsc_r, if_pos c2]
  have hd : a / 2 ^ P = 0 := Nat.div_eq_of_lt hb
  have c1 : ¬ (a : Int) ≥ zshl 1 (P : Int) := by rw [hsh1]; omega
  have c2 : ¬ zshr (a : Int) (P : Int) ≠ 0 := by rw [hsh2, hd]; exact fun q => q rfl
  clear hsh1 hsh2
  by_cases hc : 0 ≤ c ∧ c ≤ 1
  rotate_left
  · refine ⟨-1, μ, μ, ?_, ?_, zsc_r⟩
    · unfold fX10_learnt
      rw [if_neg hx1, gq_5_4 hG, vq_34 e34, if_neg c1, zcall_of (s10_isChoice c), zb_f hc, if_neg (fun q => q rfl)]
    · rw [eX11_learnt, if_neg hx1, gf_129, show ((20 : Nat) : Int) = 20 from rfl, e20 μ zsc_r, if_neg c2, zcall_of (s11_within c 0 1), zb_f hc, if_neg (fun q => q rfl)]
  by_cases hw0 : μ 21 3 = 0
  · refine ⟨-5, μ, μ, ?_, ?_, zsc_r⟩
    · unfold fX10_learnt
      rw [if_neg hx1, gq_5_4 hG, vq_34 e34, if_neg c1, zcall_of (s10_isChoice c), zb_t hc, if_pos (by decide), gq_5_3 hG, vq_21 (s3_isEmpty_t hw0), if_neg (by decide)]
    · rw [eX11_learnt, if_neg hx1, gf_129, show ((20 : Nat) : Int) = 20 from rfl, e20 μ zsc_r, if_neg c2, zcall_of (s11_within c 0 1), zb_t hc, if_pos (by decide), gf_129, show ((9 : Nat) : Int) = 9 from rfl, w9, hw0, if_neg (fun q => q rfl)]
  obtain ⟨W, hWn⟩ : ∃ W : Nat, μ 21 3 = W := ⟨(μ 21 3).toNat, by omega⟩
  obtain ⟨V, hV⟩ : ∃ V : Nat, W = V + 1 := ⟨W - 1, by omega⟩
  obtain ⟨N, hN⟩ : ∃ N : Nat, μ 6 1 = N := ⟨(μ 6 1).toNat, by omega⟩
  obtain ⟨H, hH⟩ := zheeds hG hS hW
  obtain ⟨f, hf⟩ : ∃ f : Nat → Int, ∀ w, f w = zfw μ H a P N w := ⟨_, fun _ => rfl⟩
  have ho : ∀ n : Nat, n < W → ∀ u, zsc μ u → ∃ u', zsc μ u' ∧ fX3_offOf 21 n a 34 u = some (f n, u') := fun n hn u hu => s3_offOf hG hS hP hH hu hPn hN hb (by omega) (hf n)
  obtain ⟨u1, p1, p2⟩ := s3_leastOff hWn hV (by omega) ho (zsc_r (μ := μ))
  obtain ⟨z1, m, hm, z2⟩ := zlo_c (f := f) V
  have hz1 : (zlo f V).1 = (m : Int) := by rw [z2]
  have hz2 : (zlo f V).2 = f m := by rw [z2]
  rw [hz1] at p2
  have hcl : ∃ u2, zsc μ u2 ∧ fX10_learnt 5 a c μ = some (if c ≠ 0 then f m else (m : Int), u2) := by
    by_cases hc0 : c ≠ 0
    · obtain ⟨u2, r1, r2⟩ := ho m (by omega) u1 p1
      have hG1 := zsc_G0 p1 hG
      refine ⟨u2, r1, ?_⟩
      unfold fX10_learnt
      rw [if_neg hx1, gq_5_4 hG, vq_34 e34, if_neg c1, zcall_of (s10_isChoice c), zb_t hc, if_pos (by decide), gq_5_3 hG, vq_21 (s3_isEmpty_f hw0), if_pos rfl, gq_5_3 hG, gq_5_4 hG, vq_21 p2, if_pos hc0, gq_5_3 hG1, gq_5_4 hG1, vq_21 r2, if_pos hc0]
    · refine ⟨u1, p1, ?_⟩
      unfold fX10_learnt
      rw [if_neg hx1, gq_5_4 hG, vq_34 e34, if_neg c1, zcall_of (s10_isChoice c), zb_t hc, if_pos (by decide), gq_5_3 hG, vq_21 (s3_isEmpty_f hw0), if_pos rfl, gq_5_3 hG, gq_5_4 hG, vq_21 p2, if_neg hc0, if_neg hc0]
  obtain ⟨u2, r1, r2⟩ := hcl
  obtain ⟨u3, t1, t2⟩ := s11_learnt_3 hG hS hP hH r1 hPn hN (by omega) hWn w9 (by omega) c hf
  rw [hV, z1, hz1, hz2] at t2
  have e9 : u2 129 9 = μ 21 3 := (r1 _ _ (by omega) (by omega) (by omega) (by omega) (by omega)).trans w9
  refine ⟨_, u2, u3, r2, ?_, t1⟩
  rw [eX11_learnt, if_neg hx1, gf_129, show ((20 : Nat) : Int) = 20 from rfl, e20 u2 r1, if_neg c2, zcall_of (s11_within c 0 1), zb_t hc, if_pos (by decide), gf_129, show ((9 : Nat) : Int) = 9 from rfl, e9, if_pos hw0]
  exact t2
