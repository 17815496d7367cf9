/-! ===== ask: both scans ===== -/
set_option maxHeartbeats 400000 in
theorem zlg2 {bot : Int → Int → zMem → zRs} {F : (Int → Int → zMem → zRs) → (Int → Int → zMem → zRs)} {G : zRs → Prop} (I : Nat → Int → Int → zMem → Prop) (N : Nat) (hN : N < 1000000) (hs : ∀ k n a b u, n < N → I n a b u → ∃ a' b' u', I (n + 1) a' b' u' ∧ F k a b u = k a' b' u') (he : ∀ k a b u, I N a b u → G (F k a b u)) {a0 b0 : Int} {u0 : zMem} (h0 : I 0 a0 b0 u0) : G (zlp bot F 1000000 a0 b0 u0) := by
  have key : ∀ fuel n a b u, n ≤ N → N - n < fuel → I n a b u → G (zlp bot F fuel a b u) := by
    intro fuel
    induction fuel with
    | zero => intro n a b u h1 h2; omega
    | succ fuel ih =>
      intro n a b u h1 h2 h3
      by_cases hn : n = N
      · rw [hn] at h3
        exact he (zlp bot F fuel) a b u h3
      · obtain ⟨a', b', u', g1, g2⟩ := hs (zlp bot F fuel) n a b u (by omega) h3
        have g3 := ih (n + 1) a' b' u' (by omega) (by omega) g1
        show G (F (zlp bot F fuel) a b u)
        rw [g2]
        exact g3
  exact key 1000000 0 a0 b0 u0 (by omega) (by omega) h0
set_option maxHeartbeats 400000 in
theorem zlg3 {bot : Int → Int → Int → zMem → zRs} {F : (Int → Int → Int → zMem → zRs) → (Int → Int → Int → zMem → zRs)} {G : zRs → Prop} (I : Nat → Int → Int → Int → zMem → Prop) (N : Nat) (hN : N < 1000000) (hs : ∀ k n a b c u, n < N → I n a b c u → ∃ a' b' c' u', I (n + 1) a' b' c' u' ∧ F k a b c u = k a' b' c' u') (he : ∀ k a b c u, I N a b c u → G (F k a b c u)) {a0 b0 c0 : Int} {u0 : zMem} (h0 : I 0 a0 b0 c0 u0) : G (zlp bot F 1000000 a0 b0 c0 u0) := by
  have key : ∀ fuel n a b c u, n ≤ N → N - n < fuel → I n a b c u → G (zlp bot F fuel a b c u) := by
    intro fuel
    induction fuel with
    | zero => intro n a b c u h1 h2; omega
    | succ fuel ih =>
      intro n a b c u h1 h2 h3
      by_cases hn : n = N
      · rw [hn] at h3
        exact he (zlp bot F fuel) a b c u h3
      · obtain ⟨a', b', c', u', g1, g2⟩ := hs (zlp bot F fuel) n a b c u (by omega) h3
        have g3 := ih (n + 1) a' b' c' u' (by omega) (by omega) g1
        show G (F (zlp bot F fuel) a b c u)
        rw [g2]
        exact g3
  exact key 1000000 0 a0 b0 c0 u0 (by omega) (by omega) h0
def zia (st : Int → Int → Int × Int → Int × Int) (a : Int) (s : Int × Int) : Nat → Int × Int
  | 0 => s
  | n + 1 => st a (a + 1 + n) (zia st a s n)
def zoa (st : Int → Int → Int × Int → Int × Int) (W : Nat) (s : Int × Int) : Nat → Int × Int
  | 0 => s
  | n + 1 => zia st n (zoa st W s n) (W - 1 - n)
def zxs (v : Int → Int → Int) (a b : Int) (s : Int × Int) : Int × Int := if v a b ≤ s.2 then s else (10 * a + b, v a b)
set_option maxHeartbeats 400000 in
theorem zxs_t {v : Int → Int → Int} {a b : Int} {s : Int × Int} (h : v a b ≤ s.2) : zxs v a b s = s := if_pos h
set_option maxHeartbeats 400000 in
theorem zxs_f {v : Int → Int → Int} {a b : Int} {s : Int × Int} (h : ¬ v a b ≤ s.2) : zxs v a b s = (10 * a + b, v a b) := if_neg h
def zsr (v : Int → Int → Int) (a b : Int) (s : Int × Int) : Int × Int := if s.1 < 0 then (10 * a + b, v a b) else zxs v a b s
set_option maxHeartbeats 400000 in
theorem zsr_t {v : Int → Int → Int} {a b : Int} {s : Int × Int} (h : s.1 < 0) : zsr v a b s = (10 * a + b, v a b) := if_pos h
set_option maxHeartbeats 400000 in
theorem zsr_f {v : Int → Int → Int} {a b : Int} {s : Int × Int} (h : ¬ s.1 < 0) : zsr v a b s = zxs v a b s := if_neg h
set_option maxHeartbeats 400000 in
theorem zia_S {st : Int → Int → Int × Int → Int × Int} {a : Nat} {s : Int × Int} {n : Nat} : zia st a s (n + 1) = st a ((a + 1 + n : Nat) : Int) (zia st a s n) := by
  show st a ((a : Int) + 1 + n) (zia st a s n) = _
  rw [show (a : Int) + 1 + n = ((a + 1 + n : Nat) : Int) by omega]
/-- a pair found -/
def zgd2 (v : Int → Int → Int) (W : Nat) (s : Int × Int) : Prop := ∃ a b : Int, 0 ≤ a ∧ a < b ∧ b < W ∧ s = (10 * a + b, v a b)
set_option maxHeartbeats 400000 in
theorem zbs_1 {v : Int → Int → Int} {W : Nat} {s : Int × Int} (h : zgd2 v W s) {a b : Int} (a0 : 0 ≤ a) (ab : a < b) (bW : b < W) : zxs v a b s = zsr v a b s ∧ zgd2 v W (zxs v a b s) := by
  obtain ⟨c, d, c0, cd, dW, e⟩ := id h
  have hs : ¬ s.1 < 0 := by
    rw [e]
    show ¬ 10 * c + d < 0
    omega
  refine ⟨(zsr_f hs).symm, ?_⟩
  by_cases q : v a b ≤ s.2
  · rw [zxs_t q]; exact h
  · rw [zxs_f q]; exact ⟨a, b, a0, ab, bW, rfl⟩
set_option maxHeartbeats 400000 in
theorem zbs_2 {v : Int → Int → Int} {W : Nat} {s : Int × Int} (h : zgd2 v W s) {a : Nat} : ∀ n : Nat, a + 1 + n ≤ W → zia (zxs v) a s n = zia (zsr v) a s n ∧ zgd2 v W (zia (zxs v) a s n)
  | 0, _ => ⟨rfl, h⟩
  | n + 1, hn => by
    obtain ⟨i1, i2⟩ := zbs_2 (a := a) h n (by omega)
    have g := zbs_1 i2 (a := a) (b := ((a + 1 + n : Nat) : Int)) (by omega) (by omega) (by omega)
    rw [zia_S, zia_S, ← i1]
    exact g
set_option maxHeartbeats 400000 in
theorem zbs_3 {v : Int → Int → Int} (hv : ∀ a b, 0 ≤ v a b) {W : Nat} : ∀ n : Nat, n + 2 ≤ W → zia (zxs v) (0 : Nat) (1, -1) (n + 1) = zia (zsr v) (0 : Nat) (-1, 0) (n + 1) ∧ zgd2 v W (zia (zxs v) (0 : Nat) (1, -1) (n + 1))
  | 0, h => by
    have h01 := hv ((0 : Nat) : Int) ((0 + 1 + 0 : Nat) : Int)
    rw [zia_S, zia_S]
    show zxs v ((0 : Nat) : Int) ((0 + 1 + 0 : Nat) : Int) (1, -1) = zsr v ((0 : Nat) : Int) ((0 + 1 + 0 : Nat) : Int) (-1, 0) ∧ zgd2 v W (zxs v ((0 : Nat) : Int) ((0 + 1 + 0 : Nat) : Int) (1, -1))
    have q : ¬ v ((0 : Nat) : Int) ((0 + 1 + 0 : Nat) : Int) ≤ ((1 : Int), (-1 : Int)).2 := by
      show ¬ v ((0 : Nat) : Int) ((0 + 1 + 0 : Nat) : Int) ≤ -1
      omega
    rw [zxs_f q, zsr_t (by decide : ((-1 : Int), (0 : Int)).1 < 0)]
    exact ⟨rfl, _, _, by omega, by omega, by omega, rfl⟩
  | n + 1, h => by
    obtain ⟨i1, i2⟩ := zbs_3 hv (W := W) n (by omega)
    have g := zbs_1 i2 (a := ((0 : Nat) : Int)) (b := ((0 + 1 + (n + 1) : Nat) : Int)) (by omega) (by omega) (by omega)
    rw [zia_S, zia_S (n := n + 1), ← i1]
    exact g
set_option maxHeartbeats 400000 in
theorem zbest {v : Int → Int → Int} (hv : ∀ a b, 0 ≤ v a b) {W : Nat} (h2 : 2 ≤ W) : ∀ n : Nat, n + 1 ≤ W → zoa (zxs v) W (1, -1) (n + 1) = zoa (zsr v) W (-1, 0) (n + 1) ∧ zgd2 v W (zoa (zxs v) W (1, -1) (n + 1))
  | 0, _ => by
    obtain ⟨M, hM⟩ : ∃ M : Nat, W - 1 - 0 = M + 1 := ⟨W - 2, by omega⟩
    have g := zbs_3 hv (W := W) M (by omega)
    show zia (zxs v) ((0 : Nat) : Int) (1, -1) (W - 1 - 0) = zia (zsr v) ((0 : Nat) : Int) (-1, 0) (W - 1 - 0) ∧ zgd2 v W (zia (zxs v) ((0 : Nat) : Int) (1, -1) (W - 1 - 0))
    rw [hM]
    exact g
  | n + 1, h => by
    obtain ⟨i1, i2⟩ := zbest hv h2 n (by omega)
    have g := zbs_2 i2 (a := n + 1) (W - 1 - (n + 1)) (by omega)
    show zia (zxs v) ((n + 1 : Nat) : Int) (zoa (zxs v) W (1, -1) (n + 1)) (W - 1 - (n + 1)) = zia (zsr v) ((n + 1 : Nat) : Int) (zoa (zsr v) W (-1, 0) (n + 1)) (W - 1 - (n + 1)) ∧ zgd2 v W (zia (zxs v) ((n + 1 : Nat) : Int) (zoa (zxs v) W (1, -1) (n + 1)) (W - 1 - (n + 1)))
    rw [← i1]
    exact g
set_option maxHeartbeats 400000 in
theorem zcode {a b : Nat} (ha : a < 4) (hb : b < 5) : zw32 (zw32 (10 * (a : Int)) + (b : Int)) = 10 * (a : Int) + (b : Int) := by
  rw [zw32_id (x := 10 * (a : Int)) (by omega) (by omega), zw32_id (by omega) (by omega)]
set_option maxHeartbeats 400000 in
theorem s3_best_1 {μ v : zMem} (hG : zG0 μ) (hS : zGS μ) {H : Int → Int → Int} (hH : zhd μ H) (hv : zsc μ v) {W a M : Nat} (hW : μ 21 3 = W) (h4 : W ≤ 4) (hM : a + 1 + M = W) (k5 : Int → Int → Int → zMem → zRs) (s : Int × Int) : ∃ u', zsc μ u' ∧ lX3_bestPair_1 21 a k5 s.1 s.2 ((a + 1 : Nat) : Int) v = k5 (zia (zxs (zpq μ H)) a s M).1 (zia (zxs (zpq μ H)) a s M).2 ((a + 1 : Nat) : Int) u' := by
  unfold lX3_bestPair_1
  refine zlg3 (G := fun R => ∃ u', zsc μ u' ∧ R = k5 (zia (zxs (zpq μ H)) a s M).1 (zia (zxs (zpq μ H)) a s M).2 ((a + 1 : Nat) : Int) u') (fun n x y z u => x = (zia (zxs (zpq μ H)) a s n).1 ∧ y = (zia (zxs (zpq μ H)) a s n).2 ∧ z = ((a + 1 + n : Nat) : Int) ∧ zsc μ u) M (by omega) ?_ ?_ ⟨rfl, rfl, rfl, hv⟩
  · intro k n x y z u hn hI
    obtain ⟨rfl, rfl, rfl, hu⟩ := hI
    rw [zia_S]
    generalize zia (zxs (zpq μ H)) a s n = t
    have e21 : u 21 3 = μ 21 3 := hu _ _ (by omega) (by omega) (by omega) (by omega) (by omega)
    obtain ⟨u', p1, p2⟩ := s3_pair hG hS hH hu (a := (a : Int)) (b := ((a + 1 + n : Nat) : Int)) (by omega) (by omega) (by omega) (by omega)
    have c : ¬ ((a + 1 + n : Nat) : Int) ≥ u 21 3 := by omega
    have hc := zcode (a := a) (b := a + 1 + n) (by omega) (by omega)
    have hp := zupn (n := a + 1 + n) (by omega)
    by_cases d : zpq μ H a ((a + 1 + n : Nat) : Int) ≤ t.2
    · rw [zxs_t d]
      refine ⟨t.1, t.2, ((a + 1 + (n + 1) : Nat) : Int), u', ⟨rfl, rfl, rfl, p2⟩, ?_⟩
      show zgf 3 3 21 u _ = _
      rw [gf_21, show ((3 : Nat) : Int) = 3 from rfl, if_neg c, vq_21 p1, zjn_ok, if_pos d, hp]
      rfl
    · rw [zxs_f d]
      refine ⟨10 * (a : Int) + ((a + 1 + n : Nat) : Int), zpq μ H a ((a + 1 + n : Nat) : Int), ((a + 1 + (n + 1) : Nat) : Int), u', ⟨rfl, rfl, rfl, p2⟩, ?_⟩
      show zgf 3 3 21 u _ = _
      rw [gf_21, show ((3 : Nat) : Int) = 3 from rfl, if_neg c, vq_21 p1, zjn_ok, if_neg d, hp, hc]
      rfl
  · intro k x y z u hI
    obtain ⟨rfl, rfl, rfl, hu⟩ := hI
    have e21 : u 21 3 = μ 21 3 := hu _ _ (by omega) (by omega) (by omega) (by omega) (by omega)
    have c : ((a + 1 + M : Nat) : Int) ≥ u 21 3 := by omega
    have hp := zupn (n := a) (by omega)
    refine ⟨u, hu, ?_⟩
    show zgf 3 3 21 u _ = _
    rw [gf_21, show ((3 : Nat) : Int) = 3 from rfl, if_pos c, hp]
set_option maxHeartbeats 400000 in
theorem s3_best {μ v : zMem} (hG : zG0 μ) (hS : zGS μ) {H : Int → Int → Int} (hH : zhd μ H) (hv : zsc μ v) {W : Nat} (hW : μ 21 3 = W) (h4 : W ≤ 4) : ∃ u', zsc μ u' ∧ fX3_bestPair 21 v = some ((zoa (zxs (zpq μ H)) W (1, -1) W).1, u') := by
  rw [eX3_bestPair]
  unfold lX3_bestPair_2
  refine zlg3 (G := fun R => ∃ u', zsc μ u' ∧ R = some ((zoa (zxs (zpq μ H)) W (1, -1) W).1, u')) (fun n x y z u => x = (zoa (zxs (zpq μ H)) W (1, -1) n).1 ∧ y = (zoa (zxs (zpq μ H)) W (1, -1) n).2 ∧ z = (n : Int) ∧ zsc μ u) W (by omega) ?_ ?_ ⟨rfl, rfl, rfl, hv⟩
  · intro k n x y z u hn hI
    obtain ⟨rfl, rfl, rfl, hu⟩ := hI
    have e21 : u 21 3 = μ 21 3 := hu _ _ (by omega) (by omega) (by omega) (by omega) (by omega)
    obtain ⟨u', p1, p2⟩ := s3_best_1 hG hS hH hu hW h4 (a := n) (M := W - 1 - n) (by omega) k (zoa (zxs (zpq μ H)) W (1, -1) n)
    have c : ¬ (n : Int) ≥ u 21 3 := by omega
    have hp := zupn (n := n) (by omega)
    refine ⟨_, _, _, u', ⟨rfl, rfl, rfl, p1⟩, ?_⟩
    show zgf 3 3 21 u _ = _
    rw [gf_21, show ((3 : Nat) : Int) = 3 from rfl, if_neg c, hp]
    exact p2
  · intro k x y z u hI
    obtain ⟨rfl, rfl, rfl, hu⟩ := hI
    have e21 : u 21 3 = μ 21 3 := hu _ _ (by omega) (by omega) (by omega) (by omega) (by omega)
    have c : (W : Int) ≥ u 21 3 := by omega
    refine ⟨u, hu, ?_⟩
    show zgf 3 3 21 u _ = _
    rw [gf_21, show ((3 : Nat) : Int) = 3 from rfl, if_pos c]
set_option maxHeartbeats 400000 in
theorem s11_ask_1 {μ v : zMem} (hS : zGS μ) {H : Int → Int → Int} (hH : zhd μ H) (hv : zsc μ v) {W a b : Nat} (hW : μ 21 3 = W) (h4 : W ≤ 4) (ha : a < b) (hb : b < W) (k14 : Int → Int → Int → zMem → zRs) (s : Int × Int) : ∃ u', zsc μ u' ∧ lX11_ask_1 129 a s.1 s.2 b k14 0 0 v = k14 (zsr (zpq μ H) a b s).1 (zsr (zpq μ H) a b s).2 ((b + 1 : Nat) : Int) u' := by
  have h16 := hS.2.1
  have hN := hS.1
  have h6 := hS.2.2.1
  have hb2 := zpy_le (N := (μ 6 1).toNat) hH a b
  unfold lX11_ask_1
  refine zlg2 (G := fun R => ∃ u', zsc μ u' ∧ R = k14 (zsr (zpq μ H) a b s).1 (zsr (zpq μ H) a b s).2 ((b + 1 : Nat) : Int) u') (fun n x y u => x = zsm (zpy H a b) n ∧ y = n ∧ zsc μ u) (μ 6 1).toNat (by omega) ?_ ?_ ⟨rfl, rfl, hv⟩
  · intro k n x y u hn hI
    obtain ⟨rfl, rfl, hu⟩ := hI
    have e6 : u 129 6 = μ 6 1 := (hu _ _ (by omega) (by omega) (by omega) (by omega) (by omega)).trans h6
    have hs := hb2 n (by omega)
    have hn6 : n < 1000000 := by omega
    have hn3 : n < 1000 := by omega
    obtain ⟨u1, p1, p2⟩ := (hH.2 a n (by omega) (by omega) (by omega) (by omega)).2 u hu
    obtain ⟨u2, q1, q2⟩ := (hH.2 b n (by omega) (by omega) (by omega) (by omega)).2 u1 p2
    have c : ¬ (n : Int) ≥ μ 6 1 := by omega
    have hy := zpq1 (hH.1 a n).1 (hH.1 a n).2 (hH.1 b n).1 (hH.1 b n).2
    have hx := zpa (n := n) hn3 hs.1 hs.2 hy.1 hy.2.1
    have hp := zupn hn6
    refine ⟨zsm (zpy H a b) (n + 1), ((n + 1 : Nat) : Int), u2, ⟨rfl, rfl, q2⟩, ?_⟩
    show zgf 11 6 129 u _ = _
    rw [gf_129, show ((6 : Nat) : Int) = 6 from rfl, e6, if_neg c, vq_129 p1, vq_129 q1, hy.2.2, hx, hp]
    rfl
  · intro k x y u hI
    obtain ⟨rfl, rfl, hu⟩ := hI
    have e6 : u 129 6 = μ 6 1 := (hu _ _ (by omega) (by omega) (by omega) (by omega) (by omega)).trans h6
    have c : ((μ 6 1).toNat : Int) ≥ μ 6 1 := by omega
    have hc := zcode (a := a) (b := b) (by omega) (by omega)
    have hp := zupn (n := b) (by omega)
    have hz : zsm (zpy H a b) (μ 6 1).toNat = zpq μ H a b := rfl
    refine ⟨u, hu, ?_⟩
    show zgf 11 6 129 u _ = _
    rw [gf_129, show ((6 : Nat) : Int) = 6 from rfl, e6, if_pos c, zjn_ok, zjn_ok, hz]
    by_cases d : s.1 < 0
    · rw [if_pos d, zsr_t d, hc, hp]
    · by_cases e : zpq μ H a b ≤ s.2
      · rw [if_neg d, if_pos e, zsr_f d, zxs_t e, hp]
      · rw [if_neg d, if_neg e, zsr_f d, zxs_f e, hc, hp]
set_option maxHeartbeats 400000 in
theorem s11_ask_2 {μ v : zMem} (hS : zGS μ) (hW3 : μ 129 9 = μ 21 3) {H : Int → Int → Int} (hH : zhd μ H) (hv : zsc μ v) {W a M : Nat} (hW : μ 21 3 = W) (h4 : W ≤ 4) (hM : a + 1 + M = W) (k8 : Int → Int → Int → zMem → zRs) (s : Int × Int) : ∃ u', zsc μ u' ∧ lX11_ask_2 129 a k8 s.1 s.2 ((a + 1 : Nat) : Int) v = k8 (zia (zsr (zpq μ H)) a s M).1 (zia (zsr (zpq μ H)) a s M).2 ((a + 1 : Nat) : Int) u' := by
  unfold lX11_ask_2
  refine zlg3 (G := fun R => ∃ u', zsc μ u' ∧ R = k8 (zia (zsr (zpq μ H)) a s M).1 (zia (zsr (zpq μ H)) a s M).2 ((a + 1 : Nat) : Int) u') (fun n x y z u => x = (zia (zsr (zpq μ H)) a s n).1 ∧ y = (zia (zsr (zpq μ H)) a s n).2 ∧ z = ((a + 1 + n : Nat) : Int) ∧ zsc μ u) M (by omega) ?_ ?_ ⟨rfl, rfl, rfl, hv⟩
  · intro k n x y z u hn hI
    obtain ⟨rfl, rfl, rfl, hu⟩ := hI
    have e9 : u 129 9 = μ 21 3 := (hu _ _ (by omega) (by omega) (by omega) (by omega) (by omega)).trans hW3
    have c : ¬ ((a + 1 + n : Nat) : Int) ≥ μ 21 3 := by omega
    obtain ⟨u', p1, p2⟩ := s11_ask_1 hS hH hu hW h4 (a := a) (b := a + 1 + n) (by omega) (by omega) k (zia (zsr (zpq μ H)) a s n)
    rw [zia_S]
    refine ⟨_, _, ((a + 1 + (n + 1) : Nat) : Int), u', ⟨rfl, rfl, rfl, p1⟩, ?_⟩
    show zgf 11 9 129 u _ = _
    rw [gf_129, show ((9 : Nat) : Int) = 9 from rfl, e9, if_neg c]
    exact p2
  · intro k x y z u hI
    obtain ⟨rfl, rfl, rfl, hu⟩ := hI
    have e9 : u 129 9 = μ 21 3 := (hu _ _ (by omega) (by omega) (by omega) (by omega) (by omega)).trans hW3
    have c : ((a + 1 + M : Nat) : Int) ≥ μ 21 3 := by omega
    have hp := zupn (n := a) (by omega)
    refine ⟨u, hu, ?_⟩
    show zgf 11 9 129 u _ = _
    rw [gf_129, show ((9 : Nat) : Int) = 9 from rfl, e9, if_pos c, hp]
set_option maxHeartbeats 400000 in
theorem s11_ask {μ v : zMem} (hS : zGS μ) (hW3 : μ 129 9 = μ 21 3) {H : Int → Int → Int} (hH : zhd μ H) (hv : zsc μ v) {W : Nat} (hW : μ 21 3 = W) (h4 : W ≤ 4) (x1 : Int) : ∃ u', zsc μ u' ∧ lX11_ask_3 129 x1 (-1) 0 0 v = some (if x1 ≠ 0 then (zoa (zsr (zpq μ H)) W (-1, 0) W).2 else (zoa (zsr (zpq μ H)) W (-1, 0) W).1, u') := by
  unfold lX11_ask_3
  refine zlg3 (G := fun R => ∃ u', zsc μ u' ∧ R = some (if x1 ≠ 0 then (zoa (zsr (zpq μ H)) W (-1, 0) W).2 else (zoa (zsr (zpq μ H)) W (-1, 0) W).1, u')) (fun n x y z u => x = (zoa (zsr (zpq μ H)) W (-1, 0) n).1 ∧ y = (zoa (zsr (zpq μ H)) W (-1, 0) n).2 ∧ z = (n : Int) ∧ zsc μ u) W (by omega) ?_ ?_ ⟨rfl, rfl, rfl, hv⟩
  · intro k n x y z u hn hI
    obtain ⟨rfl, rfl, rfl, hu⟩ := hI
    have e9 : u 129 9 = μ 21 3 := (hu _ _ (by omega) (by omega) (by omega) (by omega) (by omega)).trans hW3
    obtain ⟨u', p1, p2⟩ := s11_ask_2 hS hW3 hH hu hW h4 (a := n) (M := W - 1 - n) (by omega) k (zoa (zsr (zpq μ H)) W (-1, 0) n)
    have c : ¬ (n : Int) ≥ μ 21 3 := by omega
    have hp := zupn (n := n) (by omega)
    refine ⟨_, _, _, u', ⟨rfl, rfl, rfl, p1⟩, ?_⟩
    show zgf 11 9 129 u _ = _
    rw [gf_129, show ((9 : Nat) : Int) = 9 from rfl, e9, if_neg c, hp]
    exact p2
  · intro k x y z u hI
    obtain ⟨rfl, rfl, rfl, hu⟩ := hI
    have e9 : u 129 9 = μ 21 3 := (hu _ _ (by omega) (by omega) (by omega) (by omega) (by omega)).trans hW3
    have c : (W : Int) ≥ μ 21 3 := by omega
    refine ⟨u, hu, ?_⟩
    show zgf 11 9 129 u _ = _
    rw [gf_129, show ((9 : Nat) : Int) = 9 from rfl, e9, if_pos c]
    by_cases d : x1 ≠ 0
    · rw [if_pos d, if_pos d]
    · rw [if_neg d, if_neg d]
set_option maxHeartbeats 400000 in
theorem op_ask {μ : zMem} (hG : zG0 μ) (hS : zGS μ) (hW : zGW μ) (x : Int) : ∃ r μ1 μ2, fX10_ask 5 x μ = some (r, μ1) ∧ fX11_ask 129 x μ1 = some (r, μ2) ∧ zsc μ μ2 := by
  obtain ⟨w0, w4, w9⟩ := hW.1
  by_cases c : 0 ≤ x ∧ x ≤ 1
  · have esz : fX3_size 21 μ = some (μ 21 3, μ) := by
      unfold fX3_size
      rw [gf_21, show ((3 : Nat) : Int) = 3 from rfl]
    by_cases d : μ 21 3 ≥ 2
    · obtain ⟨W, hWn⟩ : ∃ W : Nat, μ 21 3 = W := ⟨(μ 21 3).toNat, by omega⟩
      obtain ⟨H, hH⟩ := zheeds hG hS hW
      obtain ⟨u1, p1, p2⟩ := s3_best hG hS hH zsc_r hWn (by omega)
      have hG1 := zsc_G0 p1 hG
      obtain ⟨V, hV⟩ : ∃ V : Nat, W = V + 1 := ⟨W - 1, by omega⟩
      have hb := zbest (fun a b => zpq_0 hH a b) (W := W) (by omega) V (by omega)
      rw [← hV] at hb
      obtain ⟨hb1, a, b, a0, ab, bW, hb2⟩ := hb
      rw [hb2] at hb1 p2
      have p3 : fX3_bestPair 21 μ = some (10 * a + b, u1) := p2
      have t1 : zw32 (Int.tdiv (10 * a + b) 10) = a := by
        rw [Int.tdiv_eq_ediv_of_nonneg (by omega), show (10 * a + b) / 10 = a by omega, zw32_id (by omega) (by omega)]
      have t2 : Int.tmod (10 * a + b) 10 = b := by
        rw [Int.tmod_eq_emod_of_nonneg (by omega)]
        omega
      obtain ⟨u2, q1, q2⟩ := s3_pair hG hS hH p1 (a := a) (b := b) (by omega) (by omega) (by omega) (by omega)
      by_cases e : x ≠ 0
      · obtain ⟨u3, r1, r2⟩ := s11_ask hS w9 hH q2 hWn (by omega) x
        rw [← hb1, if_pos e] at r2
        refine ⟨zpq μ H a b, u2, u3, ?_, ?_, r1⟩
        · unfold fX10_ask
          rw [zcall_of (s10_isChoice x), zb_t c, if_pos (by decide), gq_5_3 hG, vq_21 esz, if_pos d, gq_5_3 hG, vq_21 p3, if_pos e, gq_5_3 hG1, znz_ok (by decide), znz_ok (by decide), t1, t2, vq_21 q1]
        · have e9 : u2 129 9 = μ 21 3 := (q2 _ _ (by omega) (by omega) (by omega) (by omega) (by omega)).trans w9
          rw [eX11_ask, zcall_of (s11_within x 0 1), zb_t c, if_pos (by decide), gf_129, show ((9 : Nat) : Int) = 9 from rfl, e9, if_pos d]
          exact r2
      · obtain ⟨u3, r1, r2⟩ := s11_ask hS w9 hH p1 hWn (by omega) x
        rw [← hb1, if_neg e] at r2
        refine ⟨10 * a + b, u1, u3, ?_, ?_, r1⟩
        · unfold fX10_ask
          rw [zcall_of (s10_isChoice x), zb_t c, if_pos (by decide), gq_5_3 hG, vq_21 esz, if_pos d, gq_5_3 hG, vq_21 p3, if_neg e]
        · have e9 : u1 129 9 = μ 21 3 := (p1 _ _ (by omega) (by omega) (by omega) (by omega) (by omega)).trans w9
          rw [eX11_ask, zcall_of (s11_within x 0 1), zb_t c, if_pos (by decide), gf_129, show ((9 : Nat) : Int) = 9 from rfl, e9, if_pos d]
          exact r2
    · refine ⟨-5, μ, μ, ?_, ?_, zsc_r⟩
      · unfold fX10_ask
        rw [zcall_of (s10_isChoice x), zb_t c, if_pos (by decide), gq_5_3 hG, vq_21 esz, if_neg d]
      · rw [eX11_ask, zcall_of (s11_within x 0 1), zb_t c, if_pos (by decide), gf_129, show ((9 : Nat) : Int) = 9 from rfl, w9, if_neg d]
  · refine ⟨-1, μ, μ, ?_, ?_, zsc_r⟩
    · unfold fX10_ask
      rw [zcall_of (s10_isChoice x), zb_f c, if_neg (fun q => q rfl)]
    · rw [eX11_ask, zcall_of (s11_within x 0 1), zb_f c, if_neg (fun q => q rfl)]
