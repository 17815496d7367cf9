/-! ===== asleep ===== -/
set_option maxHeartbeats 400000 in
theorem zlx2 {bot : Int → Int → zMem → zRs} {F : (Int → Int → zMem → zRs) → (Int → Int → zMem → zRs)} {G : zRs → Prop} (I : Nat → Int → Int → zMem → Prop) (N : Nat) (hN : N < 1000000) (hs : ∀ k n a b u, n ≤ N → I n a b u → (n < N ∧ ∃ a' b' u', I (n + 1) a' b' u' ∧ F k a b u = k a' b' u') ∨ G (F k a b u)) {a0 b0 : Int} {u0 : zMem} (h0 : I 0 a0 b0 u0) : G (zlp bot F 1000000 a0 b0 u0) := by
  have key : ∀ fuel n a b u, n ≤ N → N - n < fuel → I n a b u → G (zlp bot F fuel a b u) := by
    intro fuel
    induction fuel with
    | zero => intro n a b u h1 h2; omega
    | succ fuel ih =>
      intro n a b u h1 h2 h3
      rcases hs (zlp bot F fuel) n a b u h1 h3 with ⟨hn, a', b', u', g1, g2⟩ | g
      · have g3 := ih (n + 1) a' b' u' (by omega) (by omega) g1
        show G (F (zlp bot F fuel) a b u)
        rw [g2]
        exact g3
      · exact g
  exact key 1000000 0 a0 b0 u0 (by omega) (by omega) h0
set_option maxHeartbeats 400000 in
theorem zlg5 {bot : Int → Int → Int → Int → Int → zMem → zRs} {F : (Int → Int → Int → Int → Int → zMem → zRs) → (Int → Int → Int → Int → Int → zMem → zRs)} {G : zRs → Prop} (I : Nat → Int → Int → Int → Int → Int → zMem → Prop) (N : Nat) (hN : N < 1000000) (hs : ∀ k n a b c d e u, n < N → I n a b c d e u → ∃ a' b' c' d' e' u', I (n + 1) a' b' c' d' e' u' ∧ F k a b c d e u = k a' b' c' d' e' u') (he : ∀ k a b c d e u, I N a b c d e u → G (F k a b c d e u)) {a0 b0 c0 d0 e0 : Int} {u0 : zMem} (h0 : I 0 a0 b0 c0 d0 e0 u0) : G (zlp bot F 1000000 a0 b0 c0 d0 e0 u0) := by
  have key : ∀ fuel n a b c d e u, n ≤ N → N - n < fuel → I n a b c d e u → G (zlp bot F fuel a b c d e u) := by
    intro fuel
    induction fuel with
    | zero => intro n a b c d e u h1 h2; omega
    | succ fuel ih =>
      intro n a b c d e u h1 h2 h3
      by_cases hn : n = N
      · rw [hn] at h3
        exact he (zlp bot F fuel) a b c d e u h3
      · obtain ⟨a', b', c', d', e', u', g1, g2⟩ := hs (zlp bot F fuel) n a b c d e u (by omega) h3
        have g3 := ih (n + 1) a' b' c' d' e' u' (by omega) (by omega) g1
        show G (F (zlp bot F fuel) a b c d e u)
        rw [g2]
        exact g3
  exact key 1000000 0 a0 b0 c0 d0 e0 u0 (by omega) (by omega) h0
def zsq (pl L : Int → Int) : Nat → Nat → Int
  | 0, _ => 0
  | k + 1, i => if 0 ≤ pl i then 0 else L i + zsq pl L k (i + 1)
def zsS (pl L : Int → Int) (N i : Nat) : Int := zsq pl L (N - i) i
set_option maxHeartbeats 400000 in
theorem zsS_N {pl L : Int → Int} {N : Nat} : zsS pl L N N = 0 := by
  unfold zsS
  rw [Nat.sub_self]
  rfl
set_option maxHeartbeats 400000 in
theorem zsS_S {pl L : Int → Int} {N i : Nat} (h : i < N) : zsS pl L N i = if 0 ≤ pl i then 0 else L i + zsS pl L N (i + 1) := by
  unfold zsS
  rw [show N - i = (N - (i + 1)) + 1 by omega]
  rfl
set_option maxHeartbeats 400000 in
theorem zsS_t {pl L : Int → Int} {N i : Nat} (h : i < N) (q : 0 ≤ pl i) : zsS pl L N i = 0 := by rw [zsS_S h, if_pos q]
set_option maxHeartbeats 400000 in
theorem zsS_f {pl L : Int → Int} {N i : Nat} (h : i < N) (q : ¬ 0 ≤ pl i) : zsS pl L N i = L i + zsS pl L N (i + 1) := by rw [zsS_S h, if_neg q]
set_option maxHeartbeats 400000 in
theorem zsS_b {pl L : Int → Int} {N : Nat} (hL : ∀ i : Nat, i < N → 1 ≤ L i ∧ L i ≤ 30) : ∀ k i : Nat, i + k = N → 0 ≤ zsS pl L N i ∧ zsS pl L N i ≤ 30 * k
  | 0, i, h => by
    rw [show i = N by omega, zsS_N]
    omega
  | k + 1, i, h => by
    have ih := zsS_b hL (pl := pl) k (i + 1) (by omega)
    have hi := hL i (by omega)
    by_cases q : 0 ≤ pl i
    · rw [zsS_t (by omega) q]; omega
    · rw [zsS_f (by omega) q]; omega
def zcg (S : Nat → Int) : Nat → Int × Int
  | 0 => (-1, 0)
  | n + 1 => if S n ≤ (zcg S n).2 then zcg S n else ((n : Int), S n)
set_option maxHeartbeats 400000 in
theorem zcg_t {S : Nat → Int} {n : Nat} (h : S n ≤ (zcg S n).2) : zcg S (n + 1) = zcg S n := if_pos h
set_option maxHeartbeats 400000 in
theorem zcg_f {S : Nat → Int} {n : Nat} (h : ¬ S n ≤ (zcg S n).2) : zcg S (n + 1) = ((n : Int), S n) := if_neg h
set_option maxHeartbeats 400000 in
theorem zcg_c {S : Nat → Int} (hS : ∀ i, 0 ≤ S i) : ∀ n : Nat, 0 ≤ (zcg S n).2 ∧ (zcg S n = (-1, 0) ∨ ∃ i : Nat, i < n ∧ zcg S n = ((i : Int), S i))
  | 0 => ⟨Int.le_refl (0 : Int), Or.inl rfl⟩
  | n + 1 => by
    obtain ⟨i1, i2⟩ := zcg_c hS n
    by_cases q : S n ≤ (zcg S n).2
    · rw [zcg_t q]
      refine ⟨i1, ?_⟩
      rcases i2 with i2 | ⟨i, hi, i2⟩
      · exact Or.inl i2
      · exact Or.inr ⟨i, by omega, i2⟩
    · rw [zcg_f q]
      exact ⟨hS n, Or.inr ⟨n, by omega, rfl⟩⟩
set_option maxHeartbeats 400000 in
theorem zcg_k {S : Nat → Int} {b : Nat} : ∀ k : Nat, (∀ j : Nat, b ≤ j → j < b + 1 + k → S j ≤ S b) → S b ≤ (zcg S (b + 1 + k)).2 ∧ zcg S (b + 1 + k) = if S b ≤ (zcg S b).2 then zcg S b else ((b : Int), S b)
  | 0, _ => by
    show S b ≤ (zcg S (b + 1)).2 ∧ zcg S (b + 1) = _
    by_cases q : S b ≤ (zcg S b).2
    · rw [zcg_t q, if_pos q]; exact ⟨q, rfl⟩
    · rw [zcg_f q, if_neg q]; exact ⟨Int.le_refl _, rfl⟩
  | k + 1, h => by
    obtain ⟨i1, i2⟩ := zcg_k k (fun j h1 h2 => h j h1 (by omega))
    have hk := h (b + 1 + k) (by omega) (by omega)
    show S b ≤ (zcg S (b + 1 + k + 1)).2 ∧ zcg S (b + 1 + k + 1) = _
    rw [zcg_t (Int.le_trans hk i1)]
    exact ⟨i1, i2⟩
set_option maxHeartbeats 400000 in
theorem zcg_j {S : Nat → Int} (hS : ∀ i, 0 ≤ S i) {b e : Nat} (hbe : b ≤ e) (h : ∀ j : Nat, b ≤ j → j < e → S j ≤ S b) (he : e = b → S b = 0) : zcg S e = if S b ≤ (zcg S b).2 then zcg S b else ((b : Int), S b) := by
  by_cases q : e = b
  · have h0 := he q
    have hc := (zcg_c hS b).1
    rw [q, if_pos (by omega)]
  · obtain ⟨k, rfl⟩ : ∃ k, e = b + 1 + k := ⟨e - (b + 1), by omega⟩
    exact (zcg_k k h).2
set_option maxHeartbeats 400000 in
theorem s1_span {μ : zMem} (hG : zG0 μ) (hS : zGS μ) {p : Int} {pl : Int → Int} (p0 : 0 ≤ p) (p1 : p < 10) (hpl : ∀ i, fX6_placeOf (zbP p) i μ = some (pl i, μ)) {N : Nat} (hN : μ 6 1 = N) {j : Nat} (hj : j ≤ N) : fX1_spanFrom 34 (zbP p) j μ = some (zsS pl (μ 11) N j, μ) := by
  have h16 := hS.2.1
  have hL : ∀ i : Nat, i < N → 1 ≤ μ 11 i ∧ μ 11 i ≤ 30 := fun i hi => (zsayok hS (n := (i : Int)) (by omega) (by omega)).2.1
  obtain ⟨S, hSd⟩ : ∃ S : Nat → Int, ∀ i, S i = zsS pl (μ 11) N i := ⟨_, fun _ => rfl⟩
  have hSN : S N = 0 := (hSd N).trans zsS_N
  have hSt : ∀ i : Nat, i < N → 0 ≤ pl i → S i = 0 := fun i h q => (hSd i).trans (zsS_t h q)
  have hSf : ∀ i : Nat, i < N → ¬ 0 ≤ pl i → S i = μ 11 i + S (i + 1) := fun i h q => by rw [hSd i, hSd (i + 1)]; exact zsS_f h q
  rw [← hSd, eX1_spanFrom]
  clear hSd
  unfold lX1_spanFrom_1
  refine zlx2 (G := fun R => R = some (S j, μ)) (fun n a b u => u = μ ∧ b = ((j + n : Nat) : Int) ∧ j + n ≤ N ∧ a = S j - S (j + n) ∧ 0 ≤ a ∧ a ≤ 30 * n) 16 (by omega) ?_ ⟨rfl, rfl, by omega, (Int.sub_self _).symm, by omega, by omega⟩
  intro k n a b u hn hI
  obtain ⟨rfl, rfl, h1, h2, h3, h4⟩ := hI
  by_cases q : j + n = N
  · right
    have c : ((j + n : Nat) : Int) ≥ u 6 1 := by omega
    have e : a = S j := by rw [h2, q, hSN]; omega
    show zgf 1 0 34 u _ = _
    rw [gq_34_0 hG, vq_6 s5_size, if_pos c, e]
  · have c : ¬ ((j + n : Nat) : Int) ≥ u 6 1 := by omega
    by_cases q2 : 0 ≤ pl ((j + n : Nat) : Int)
    · right
      have e : a = S j := by rw [h2, hSt (j + n) (by omega) q2]; omega
      show zgf 1 0 34 u _ = _
      rw [gq_34_0 hG, vq_6 s5_size, if_neg c, vcP_of p0 p1 (hpl _), if_pos q2, e]
    · left
      have h5 := hSf (j + n) (by omega) q2
      have h6 := hL (j + n) (by omega)
      have pt : fX5_part 6 ((j + n : Nat) : Int) 3 u = some (u 11 ((j + n : Nat) : Int), u) := by
        rw [s5_part hG (by omega), if_pos ⟨by omega, by omega, by decide, by decide⟩]
        rfl
      refine ⟨by omega, a + u 11 ((j + n : Nat) : Int), ((j + (n + 1) : Nat) : Int), u, ⟨rfl, rfl, by omega, ?_, by omega, by omega⟩, ?_⟩
      · show _ = S j - S (j + n + 1)
        omega
      · have hz : zw32 (a + u 11 ((j + n : Nat) : Int)) = a + u 11 ((j + n : Nat) : Int) := zw32_id (by omega) (by omega)
        have hp : zw32 (((j + n : Nat) : Int) + 1) = ((j + n + 1 : Nat) : Int) := by
          clear hz
          exact zupn (by omega)
        show zgf 1 0 34 u _ = _
        rw [gq_34_0 hG, vq_6 s5_size, if_neg c, vcP_of p0 p1 (hpl _), if_neg q2, gq_34_0 hG, vq_6 pt, hz, hp]
        rfl
set_option maxHeartbeats 400000 in
theorem s1_gap {μ : zMem} (hG : zG0 μ) {p : Int} {N : Nat} (hN : μ 6 1 = N) (h16 : N ≤ 16) {S : Nat → Int} (hsp : ∀ j : Nat, j ≤ N → fX1_spanFrom 34 (zbP p) j μ = some (S j, μ)) : fX1_longestGap 34 (zbP p) μ = some ((zcg S N).1, μ) := by
  rw [eX1_longestGap]
  unfold lX1_longestGap_1
  refine zlg3 (G := fun R => R = some ((zcg S N).1, μ)) (fun n x y z u => x = (zcg S n).1 ∧ y = (zcg S n).2 ∧ z = (n : Int) ∧ u = μ) N (by omega) ?_ ?_ ⟨rfl, rfl, rfl, rfl⟩
  · intro k n x y z u hn hI
    obtain ⟨rfl, rfl, rfl, rfl⟩ := hI
    have c : ¬ (n : Int) ≥ u 6 1 := by omega
    have hp := zupn (n := n) (by omega)
    have h1 := hsp n (by omega)
    by_cases q : S n ≤ (zcg S n).2
    · rw [zcg_t q]
      refine ⟨(zcg S n).1, (zcg S n).2, ((n + 1 : Nat) : Int), u, ⟨rfl, rfl, rfl, rfl⟩, ?_⟩
      show zgf 1 0 34 u _ = _
      rw [gq_34_0 hG, vq_6 s5_size, if_neg c, vq_34 h1, zjn_ok, if_pos q, hp]
    · rw [zcg_f q]
      refine ⟨(n : Int), S n, ((n + 1 : Nat) : Int), u, ⟨rfl, rfl, rfl, rfl⟩, ?_⟩
      show zgf 1 0 34 u _ = _
      rw [gq_34_0 hG, vq_6 s5_size, if_neg c, vq_34 h1, zjn_ok, if_neg q, hp]
  · intro k x y z u hI
    obtain ⟨rfl, rfl, rfl, rfl⟩ := hI
    have c : (N : Int) ≥ u 6 1 := by omega
    show zgf 1 0 34 u _ = _
    rw [gq_34_0 hG, vq_6 s5_size, if_pos c]
/-- the minute that stands for a pair of the class -/
def zrp (M : Nat → Int) (s : Int × Int) : Int := if s.1 < 0 then 0 else M s.1.toNat
set_option maxHeartbeats 400000 in
theorem zrp_n {M : Nat → Int} {n : Nat} {v : Int} : zrp M ((n : Int), v) = M n := by
  unfold zrp
  show (if (n : Int) < 0 then 0 else M (n : Int).toNat) = M n
  rw [if_neg (by omega), show (n : Int).toNat = n by omega]
def ziA (S M : Nat → Int) (b : Nat) (a c d : Int) : Prop := (c ≤ (zcg S b).2 ∧ a = (zcg S b).2 ∧ d = zrp M (zcg S b)) ∨ ((zcg S b).2 < c ∧ a = c ∧ d = M b)
set_option maxHeartbeats 400000 in
theorem ziA_e {S M : Nat → Int} (hS : ∀ i, 0 ≤ S i) {b e : Nat} (hbe : b ≤ e) (h : ∀ j : Nat, b ≤ j → j < e → S j ≤ S b) (he : e = b → S b = 0) {a d : Int} (hI : ziA S M b a (S b) d) : a = (zcg S e).2 ∧ d = zrp M (zcg S e) := by
  have hj := zcg_j hS hbe h he
  rcases hI with ⟨q, h1, h2⟩ | ⟨q, h1, h2⟩
  · rw [if_pos q] at hj
    rw [hj]
    exact ⟨h1, h2⟩
  · rw [if_neg (by omega)] at hj
    rw [hj, zrp_n]
    exact ⟨h1, h2⟩
set_option maxHeartbeats 400000 in
theorem zw48 {n : Nat} (h : n < 1000000) : zw32 (48 + (n : Int)) = 48 + (n : Int) := zw32_id (by omega) (by omega)
set_option maxHeartbeats 400000 in
theorem s11_asleep {μ : zMem} (hG : zG0 μ) (hS : zGS μ) {p : Int} {pl : Int → Int} (hpl : ∀ i, fX11_has 129 p i μ = some (zb (0 ≤ pl i), μ)) {N : Nat} (hN : μ 6 1 = N) {S : Nat → Int} (hS0 : ∀ i, 0 ≤ S i) (hSN : S N = 0) (hSt : ∀ i : Nat, i < N → 0 ≤ pl i → S i = 0) (hSf : ∀ i : Nat, i < N → ¬ 0 ≤ pl i → S i = μ 11 i + S (i + 1)) (x : Int) :
    lX11_asleep_1 129 p x 0 0 0 0 0 μ = some (if x ≠ 0 then (zcg S N).2 else zrp (zsm (μ 11)) (zcg S N), μ) := by
  have h16 := hS.2.1
  have h6 := hS.2.2.1
  have hL : ∀ i : Nat, i < N → 1 ≤ μ 11 i ∧ μ 11 i ≤ 30 ∧ μ 130 (48 + i) = μ 11 i := fun i hi => by
    have := zsayok hS (n := (i : Int)) (by omega) (by omega)
    exact ⟨this.2.1.1, this.2.1.2, this.2.2.2.1⟩
  unfold lX11_asleep_1
  refine zlg5 (G := fun R => R = some (if x ≠ 0 then (zcg S N).2 else zrp (zsm (μ 11)) (zcg S N), μ)) (fun n a d c b i u => u = μ ∧ i = (n : Int) ∧ ∃ b' : Nat, b = (b' : Int) ∧ b' ≤ n ∧ c = S b' - S n ∧ 0 ≤ c ∧ c ≤ 30 * n ∧ (∀ j : Nat, b' ≤ j → j ≤ n → S j ≤ S b') ∧ ziA S (zsm (μ 11)) b' a c d) N (by omega) ?_ ?_ ⟨rfl, rfl, 0, rfl, Nat.le_refl _, (Int.sub_self _).symm, by decide, by decide, fun j h1 h2 => by rw [show j = 0 by omega]; exact Int.le_refl _, Or.inl ⟨Int.le_refl (0 : Int), rfl, rfl⟩⟩
  · intro k n a d c b i u hn hI
    obtain ⟨rfl, rfl, b, rfl, hbn, hc, c0, c1, hj, hI⟩ := hI
    have e6 : u 129 6 = (N : Int) := h6.trans hN
    have cc : ¬ (n : Int) ≥ (N : Int) := by omega
    by_cases q : 0 ≤ pl n
    · have h0 := hSt n hn q
      have hcb : c = S b := by omega
      rw [hcb] at hI
      obtain ⟨g1, g2⟩ := ziA_e hS0 (b := b) (e := n + 1) (by omega) (fun j h1 h2 => hj j h1 (by omega)) (by omega) hI
      refine ⟨a, d, 0, ((n + 1 : Nat) : Int), ((n + 1 : Nat) : Int), u, ⟨rfl, rfl, n + 1, rfl, Nat.le_refl _, (Int.sub_self _).symm, by omega, by omega, fun j h1 h2 => by rw [show j = n + 1 by omega]; exact Int.le_refl _, Or.inl ⟨(zcg_c hS0 (n + 1)).1, g1, g2⟩⟩, ?_⟩
      have hp := zupn (n := n) (by omega)
      show zgf 11 6 129 u _ = _
      rw [gf_129, show ((6 : Nat) : Int) = 6 from rfl, e6, if_neg cc, vq_129 (hpl n), zjn_ok, zb_t q, if_neg (by decide), hp]
    · have h0 := hSf n hn q
      have hl := hL n hn
      have n0 : (0 : Int) ≤ 48 + (n : Int) := by omega
      have n1 : 48 + (n : Int) < 64 := by omega
      have hz0 : -2147483648 ≤ c + u 11 n ∧ c + u 11 n < 2147483648 := ⟨by omega, by omega⟩
      have hb0 : (0 : Int) ≤ (b : Int) := by omega
      have hb1 : (b : Int) < u 6 1 := by omega
      have hn6 : n < 1000000 := by omega
      have hj2 : ∀ j : Nat, b ≤ j → j ≤ n + 1 → S j ≤ S b := fun j h1 h2 => by
        by_cases e : j = n + 1
        · have := hj n hbn (Nat.le_refl _)
          rw [e]; omega
        · exact hj j h1 (by omega)
      by_cases r : c + u 11 n ≤ a
      · refine ⟨a, d, c + u 11 n, (b : Int), ((n + 1 : Nat) : Int), u, ⟨rfl, rfl, b, rfl, by omega, by omega, by omega, by omega, hj2, ?_⟩, ?_⟩
        · rcases hI with ⟨h1, h2, h3⟩ | ⟨h1, h2, h3⟩
          · exact Or.inl ⟨by omega, h2, h3⟩
          · omega
        · show zgf 11 6 129 u _ = _
          rw [gf_129, show ((6 : Nat) : Int) = 6 from rfl, e6, if_neg cc, vq_129 (hpl n), zjn_ok, zb_f q, if_pos rfl, gq_129_0 hG, zw48 hn6, al_130 n0 n1, hl.2.2, zw32_id hz0.1 hz0.2, if_pos r, zupn hn6]
      · have hm := s11_minuteOf hG hS (i := (b : Int)) hb0 (by omega)
        rw [Int.toNat_natCast] at hm
        refine ⟨c + u 11 n, zsm (u 11) b, c + u 11 n, (b : Int), ((n + 1 : Nat) : Int), u, ⟨rfl, rfl, b, rfl, by omega, by omega, by omega, by omega, hj2, ?_⟩, ?_⟩
        · refine Or.inr ⟨?_, rfl, rfl⟩
          rcases hI with ⟨h1, h2, h3⟩ | ⟨h1, h2, h3⟩ <;> omega
        · show zgf 11 6 129 u _ = _
          rw [gf_129, show ((6 : Nat) : Int) = 6 from rfl, e6, if_neg cc, vq_129 (hpl n), zjn_ok, zb_f q, if_pos rfl, gq_129_0 hG, zw48 hn6, al_130 n0 n1, hl.2.2, zw32_id hz0.1 hz0.2, if_neg r, vq_129 hm, zupn hn6]
  · intro k a d c b i u hI
    obtain ⟨rfl, rfl, b, rfl, hbn, hc, c0, c1, hj, hI⟩ := hI
    have e6 : u 129 6 = (N : Int) := h6.trans hN
    have cc : (N : Int) ≥ (N : Int) := Int.le_refl _
    have hcb : c = S b := by omega
    rw [hcb] at hI
    obtain ⟨g1, g2⟩ := ziA_e hS0 (b := b) (e := N) hbn (fun j h1 h2 => hj j h1 (by omega)) (fun e => by rw [← e]; exact hSN) hI
    show zgf 11 6 129 u _ = _
    rw [gf_129, show ((6 : Nat) : Int) = 6 from rfl, e6, if_pos cc, ← g1, ← g2]
    by_cases r : x ≠ 0
    · rw [if_pos r, if_pos r]
    · rw [if_neg r, if_neg r]
set_option maxHeartbeats 400000 in
theorem op_asleep {μ : zMem} (hG : zG0 μ) (hS : zGS μ) (hP : zGP μ) (p x : Int) : ∃ r, fX10_asleep 5 p x μ = some (r, μ) ∧ fX11_asleep 129 p x μ = some (r, μ) := by
  have hPc := hP
  obtain ⟨⟨P0, P1, P2⟩, P3⟩ := hPc
  have h16 := hS.2.1
  have h00 := hS.1
  have e1 := s1_paper hG P1 p
  have f1 := s11_isPaper hP p
  rw [eX11_asleep]
  unfold fX10_asleep
  by_cases hp : 0 ≤ p ∧ p < μ 34 3
  rotate_left
  · rw [if_neg hp] at e1
    rw [zb_f hp] at f1
    refine ⟨-1, ?_, ?_⟩
    · rw [gq_5_4 hG, vq_34 e1, if_pos rfl]
    · rw [vq_129 f1, if_pos rfl]
  rw [if_pos hp] at e1
  rw [zb_t hp] at f1
  have p0 := hp.1
  have p1 : p < 10 := by omega
  have hz : zbP p = 53 + 6 * p := rfl
  have hne : ¬ zbP p = -1 := by omega
  by_cases hx : 0 ≤ x ∧ x ≤ 1
  rotate_left
  · refine ⟨-1, ?_, ?_⟩
    · rw [gq_5_4 hG, vq_34 e1, if_neg hne, zcall_of (s10_isChoice x), zb_f hx, if_neg (fun q => q rfl)]
    · rw [vq_129 f1, if_neg (by decide), zcall_of (s11_within x 0 1), zb_f hx, if_neg (fun q => q rfl)]
  obtain ⟨N, hN⟩ : ∃ N : Nat, μ 6 1 = N := ⟨(μ 6 1).toNat, by omega⟩
  have hPp := P3 p hp.1 hp.2
  obtain ⟨pl, hpl⟩ : ∃ pl : Int → Int, ∀ i, pl i = zpl (μ (zbP p + 2)) i (μ (zbP p) 1).toNat 0 := ⟨_, fun _ => rfl⟩
  have hpl1 : ∀ i, fX6_placeOf (zbP p) i μ = some (pl i, μ) := fun i => by
    rw [hpl]
    exact s6_placeOf hG p0 p1 ⟨hPp.1.1, hPp.1.2.1⟩ i
  have hpl2 : ∀ i, fX11_has 129 p i μ = some (zb (0 ≤ pl i), μ) := fun i => by
    rw [s11_has hG p0 p1 hPp i]
    congr 2
    rw [hpl]
  have hL : ∀ i : Nat, i < N → 1 ≤ μ 11 i ∧ μ 11 i ≤ 30 := fun i hi => (zsayok hS (n := (i : Int)) (by omega) (by omega)).2.1
  obtain ⟨S, hSd⟩ : ∃ S : Nat → Int, ∀ i, S i = zsS pl (μ 11) N i := ⟨_, fun _ => rfl⟩
  have hS0 : ∀ i, 0 ≤ S i := fun i => by
    rw [hSd]
    by_cases q : i ≤ N
    · exact (zsS_b hL (N - i) i (by omega)).1
    · unfold zsS
      rw [show N - i = 0 by omega]
      exact Int.le_refl _
  have hsp : ∀ j : Nat, j ≤ N → fX1_spanFrom 34 (zbP p) j μ = some (S j, μ) := fun j hj => by
    rw [hSd]
    exact s1_span hG hS p0 p1 hpl1 hN hj
  have hgap := s1_gap hG hN (by omega) hsp
  have href := s11_asleep hG hS hpl2 hN hS0 ((hSd N).trans zsS_N) (fun i h q => (hSd i).trans (zsS_t h q)) (fun i h q => by rw [hSd i, hSd (i + 1)]; exact zsS_f h q) x
  refine ⟨if x ≠ 0 then (zcg S N).2 else zrp (zsm (μ 11)) (zcg S N), ?_, ?_⟩
  · rw [gq_5_4 hG, vq_34 e1, if_neg hne, zcall_of (s10_isChoice x), zb_t hx, if_pos (by decide), gq_5_4 hG, vq_34 hgap]
    rcases (zcg_c hS0 N).2 with q | ⟨i, hi, q⟩
    · rw [q, if_neg (by decide)]
      by_cases r : x ≠ 0
      · rw [if_pos r]
      · rw [if_neg r]
        rfl
    · have ci : ((i : Int), S i).1 ≥ 0 := by
        show (i : Int) ≥ 0
        omega
      rw [q, if_pos ci]
      by_cases r : x ≠ 0
      · rw [if_pos r, if_pos r, gq_5_4 hG, vq_34 (hsp i (by omega))]
      · have hm := s5_minute hG hS (i := (i : Int)) (by omega) (by omega)
        rw [show (i : Int).toNat = i by omega] at hm
        rw [if_neg r, if_neg r, gq_5_0 hG, vq_6 hm, zrp_n]
  · rw [vq_129 f1, if_neg (by decide), zcall_of (s11_within x 0 1), zb_t hx, if_pos (by decide)]
    exact href
