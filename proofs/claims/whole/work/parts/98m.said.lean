/-! ===== said ===== -/
set_option maxHeartbeats 400000 in
theorem zlx3 {bot : Int → Int → Int → zMem → zRs} {F : (Int → Int → Int → zMem → zRs) → (Int → Int → Int → zMem → zRs)} {G : zRs → Prop} (I : Nat → Int → Int → Int → zMem → Prop) (N : Nat) (hN : N < 1000000) (hs : ∀ k n a b c u, n ≤ N → I n a b c u → (n < N ∧ ∃ a' b' c' u', I (n + 1) a' b' c' u' ∧ F k a b c u = k a' b' c' u') ∨ G (F k a b c u)) {a0 b0 c0 : Int} {u0 : zMem} (h0 : I 0 a0 b0 c0 u0) : G (zlp bot F 1000000 a0 b0 c0 u0) := by
  have key : ∀ fuel n a b c u, n ≤ N → N - n < fuel → I n a b c u → G (zlp bot F fuel a b c u) := by
    intro fuel
    induction fuel with
    | zero => intro n a b c u h1 h2; omega
    | succ fuel ih =>
      intro n a b c u h1 h2 h3
      rcases hs (zlp bot F fuel) n a b c u h1 h3 with ⟨hn, a', b', c', u', g1, g2⟩ | g
      · have g3 := ih (n + 1) a' b' c' u' (by omega) (by omega) g1
        show G (F (zlp bot F fuel) a b c u)
        rw [g2]
        exact g3
      · exact g
  exact key 1000000 0 a0 b0 c0 u0 (by omega) (by omega) h0
set_option maxHeartbeats 400000 in
theorem zlx4 {bot : Int → Int → Int → Int → zMem → zRs} {F : (Int → Int → Int → Int → zMem → zRs) → (Int → Int → Int → Int → zMem → zRs)} {G : zRs → Prop} (I : Nat → Int → Int → Int → Int → zMem → Prop) (N : Nat) (hN : N < 1000000) (hs : ∀ k n a b c d u, n ≤ N → I n a b c d u → (n < N ∧ ∃ a' b' c' d' u', I (n + 1) a' b' c' d' u' ∧ F k a b c d u = k a' b' c' d' u') ∨ G (F k a b c d u)) {a0 b0 c0 d0 : Int} {u0 : zMem} (h0 : I 0 a0 b0 c0 d0 u0) : G (zlp bot F 1000000 a0 b0 c0 d0 u0) := by
  have key : ∀ fuel n a b c d u, n ≤ N → N - n < fuel → I n a b c d u → G (zlp bot F fuel a b c d u) := by
    intro fuel
    induction fuel with
    | zero => intro n a b c d u h1 h2; omega
    | succ fuel ih =>
      intro n a b c d u h1 h2 h3
      rcases hs (zlp bot F fuel) n a b c d u h1 h3 with ⟨hn, a', b', c', d', u', g1, g2⟩ | g
      · have g3 := ih (n + 1) a' b' c' d' u' (by omega) (by omega) g1
        show G (F (zlp bot F fuel) a b c d u)
        rw [g2]
        exact g3
      · exact g
  exact key 1000000 0 a0 b0 c0 d0 u0 (by omega) (by omega) h0
/-- how many of the first papers are written, 7 at most -/
def zwc (wt : Int → Int) : Nat → Nat
  | 0 => 0
  | n + 1 => if wt n < 0 ∨ 7 ≤ zwc wt n then zwc wt n else zwc wt n + 1
set_option maxHeartbeats 400000 in
theorem zwc_t {wt : Int → Int} {n : Nat} (h : wt n < 0 ∨ 7 ≤ zwc wt n) : zwc wt (n + 1) = zwc wt n := if_pos h
set_option maxHeartbeats 400000 in
theorem zwc_f {wt : Int → Int} {n : Nat} (h : ¬ (wt n < 0 ∨ 7 ≤ zwc wt n)) : zwc wt (n + 1) = zwc wt n + 1 := if_neg h
def zpx (wt g : Int → Int) : Nat → Int
  | 0 => 1
  | n + 1 => if wt n < 0 ∨ 7 ≤ zwc wt n then zpx wt g n else zpx wt g n * g n
set_option maxHeartbeats 400000 in
theorem zpx_t {wt g : Int → Int} {n : Nat} (h : wt n < 0 ∨ 7 ≤ zwc wt n) : zpx wt g (n + 1) = zpx wt g n := if_pos h
set_option maxHeartbeats 400000 in
theorem zpx_f {wt g : Int → Int} {n : Nat} (h : ¬ (wt n < 0 ∨ 7 ≤ zwc wt n)) : zpx wt g (n + 1) = zpx wt g n * g n := if_neg h
set_option maxHeartbeats 400000 in
theorem zpx_b {wt g : Int → Int} (hg : ∀ i, 0 ≤ g i ∧ g i ≤ 100) : ∀ n : Nat, zwc wt n ≤ 7 ∧ 0 ≤ zpx wt g n ∧ zpx wt g n ≤ ((100 ^ zwc wt n : Nat) : Int)
  | 0 => ⟨Nat.zero_le 7, (by decide : (0 : Int) ≤ 1), (by decide : (1 : Int) ≤ ((100 ^ 0 : Nat) : Int))⟩
  | n + 1 => by
    obtain ⟨i1, i2, i3⟩ := zpx_b (wt := wt) hg n
    by_cases h : wt n < 0 ∨ 7 ≤ zwc wt n
    · rw [zwc_t h, zpx_t h]
      exact ⟨i1, i2, i3⟩
    · rw [zwc_f h, zpx_f h]
      have g0 := hg n
      have m1 : 0 ≤ zpx wt g n * g n := Int.mul_nonneg i2 g0.1
      have m2 : zpx wt g n * g n ≤ ((100 ^ zwc wt n : Nat) : Int) * 100 := Int.mul_le_mul i3 g0.2 g0.1 (by omega)
      have e : (((100 ^ (zwc wt n + 1) : Nat)) : Int) = ((100 ^ zwc wt n : Nat) : Int) * 100 := by
        rw [Nat.pow_succ]
        exact Int.natCast_mul _ _
      rw [e]
      exact ⟨by omega, m1, m2⟩
set_option maxHeartbeats 400000 in
theorem zpx_c {wt g : Int → Int} (hg : ∀ i, 0 ≤ g i ∧ g i ≤ 100) (n : Nat) : 0 ≤ zpx wt g n ∧ zpx wt g n ≤ 100000000000000 := by
  obtain ⟨i1, i2, i3⟩ := zpx_b (wt := wt) hg n
  have h : 100 ^ zwc wt n ≤ 100 ^ 7 := Nat.pow_le_pow_right (by decide) i1
  have h2 : (100 : Nat) ^ 7 = 100000000000000 := by decide
  rw [h2] at h
  exact ⟨i2, by omega⟩
set_option maxHeartbeats 400000 in
theorem zpx_s {wt g : Int → Int} {n : Nat} (h : 7 ≤ zwc wt n) : ∀ k : Nat, zpx wt g (n + k) = zpx wt g n ∧ zwc wt (n + k) = zwc wt n
  | 0 => ⟨rfl, rfl⟩
  | k + 1 => by
    obtain ⟨i1, i2⟩ := zpx_s (g := g) h k
    have c : wt ((n + k : Nat) : Int) < 0 ∨ 7 ≤ zwc wt (n + k) := Or.inr (by omega)
    rw [← Nat.add_assoc, zpx_t c, zwc_t c]
    exact ⟨i1, i2⟩
set_option maxHeartbeats 400000 in
theorem zpx_e {wt g : Int → Int} {n N : Nat} (h : 7 ≤ zwc wt n) (hn : n ≤ N) : zpx wt g N = zpx wt g n := by
  have := (zpx_s (g := g) h (N - n)).1
  rw [show n + (N - n) = N by omega] at this
  exact this
def zsy (h pl : Int → Int) (p : Int) : Int := if 0 ≤ pl p then h p else 100 - h p
set_option maxHeartbeats 400000 in
theorem zsy_t {h pl : Int → Int} {p : Int} (c : 0 ≤ pl p) : zsy h pl p = h p := if_pos c
set_option maxHeartbeats 400000 in
theorem zsy_f {h pl : Int → Int} {p : Int} (c : ¬ 0 ≤ pl p) : zsy h pl p = 100 - h p := if_neg c
set_option maxHeartbeats 400000 in
theorem zsy_b {h pl : Int → Int} (hh : ∀ p, 0 ≤ h p ∧ h p ≤ 100) (p : Int) : 0 ≤ zsy h pl p ∧ zsy h pl p ≤ 100 := by
  have := hh p
  unfold zsy
  split <;> omega
def zsn (pl : Int → Int) (p : Int) : Int := if 0 ≤ pl p then 0 else 100
set_option maxHeartbeats 400000 in
theorem zsn_t {pl : Int → Int} {p : Int} (c : 0 ≤ pl p) : zsn pl p = 0 := if_pos c
set_option maxHeartbeats 400000 in
theorem zsn_f {pl : Int → Int} {p : Int} (c : ¬ 0 ≤ pl p) : zsn pl p = 100 := if_neg c
set_option maxHeartbeats 400000 in
theorem zsn_b {pl : Int → Int} (p : Int) : 0 ≤ zsn pl p ∧ zsn pl p ≤ 100 := by
  unfold zsn
  split <;> omega
set_option maxHeartbeats 400000 in
theorem s1_ifSaid {μ v : zMem} (hG : zG0 μ) (hP : zGP μ) {H : Int → Int → Int} (hH : zhd μ H) (hv : zsc μ v) {P : Nat} (hPn : μ 34 3 = P) {i : Int} (i0 : 0 ≤ i) (i1 : i < μ 6 1) {wt h pl : Int → Int} (hwt : ∀ p, wt p = μ (zbP p) 2) (hh : ∀ p, h p = H (wt p) i) (hpl : ∀ p, pl p = zpo μ p i) : ∃ u', zsc μ u' ∧ fX1_chanceIfSaid 34 i 21 v = some (zpx wt (zsy h pl) P, u') := by
  have h10 := hP.1.2.1
  have hhb : ∀ p, 0 ≤ h p ∧ h p ≤ 100 := fun p => by rw [hh]; exact hH.1 _ _
  have hgb := zsy_b (pl := pl) hhb
  have hb := zpx_b (wt := wt) hgb
  have hc := zpx_c (wt := wt) hgb
  rw [eX1_chanceIfSaid]
  unfold lX1_chanceIfSaid_1
  refine zlx3 (G := fun R => ∃ u', zsc μ u' ∧ R = some (zpx wt (zsy h pl) P, u')) (fun n x y z u => x = zpx wt (zsy h pl) n ∧ y = ((zwc wt n : Nat) : Int) ∧ z = (n : Int) ∧ zsc μ u) P (by omega) ?_ ⟨rfl, rfl, rfl, hv⟩
  intro k n x y z u hn hI
  obtain ⟨rfl, rfl, rfl, hu⟩ := hI
  have e34 : u 34 3 = (P : Int) := (hu _ _ (by omega) (by omega) (by omega) (by omega) (by omega)).trans hPn
  have hG1 := zsc_G0 hu hG
  by_cases q : n = P
  · right
    refine ⟨u, hu, ?_⟩
    show zgf 1 3 34 u _ = _
    rw [gf_34, show ((3 : Nat) : Int) = 3 from rfl, e34, if_pos (by rw [q]; exact Int.le_refl _), q]
  have c : ¬ (n : Int) ≥ (P : Int) := by omega
  by_cases q7 : 7 ≤ zwc wt n
  · right
    have c7 : ((zwc wt n : Nat) : Int) ≥ 7 := by omega
    refine ⟨u, hu, ?_⟩
    show zgf 1 3 34 u _ = _
    rw [gf_34, show ((3 : Nat) : Int) = 3 from rfl, e34, if_neg c, if_pos c7, zpx_e q7 hn]
  left
  refine ⟨by omega, ?_⟩
  have c7 : ¬ ((zwc wt n : Nat) : Int) ≥ 7 := by omega
  have n0 : (0 : Int) ≤ n := by omega
  have n1 : (n : Int) < 10 := by omega
  have nP : (n : Int) < μ 34 3 := by omega
  have hz : zbP n = 53 + 6 * (n : Int) := rfl
  have ew : u (zbP n) 2 = wt n := by
    rw [hwt]
    exact hu _ _ (by omega) (by omega) (by omega) (by omega) (by omega)
  have eb := s6_by (μ := u) n0 n1
  rw [ew] at eb
  by_cases r : wt n < 0
  · have hp : Unit → zw32 (((n : Nat) : Int) + 1) = ((n + 1 : Nat) : Int) := fun _ => zupn (by omega)
    refine ⟨zpx wt (zsy h pl) (n + 1), ((zwc wt (n + 1) : Nat) : Int), ((n + 1 : Nat) : Int), u, ⟨rfl, rfl, rfl, hu⟩, ?_⟩
    show zgf 1 3 34 u _ = _
    rw [gf_34, show ((3 : Nat) : Int) = 3 from rfl, e34, if_neg c, if_neg c7, gq_34_1 hG1, aq_35 hG1 n0 n1, vcP_of n0 n1 eb, zjn_ok, if_pos r, hp (), zpx_t (Or.inl r), zwc_t (Or.inl r)]
  have r2 : ¬ (wt n < 0 ∨ 7 ≤ zwc wt n) := fun z => by
    rcases z with z | z
    · exact r z
    · exact q7 z
  have hpp := (hP.2 n n0 nP).2.1.2.2
  rw [← hwt] at hpp
  obtain ⟨u1, p1, p2⟩ := (hH.2 (wt n) i (by omega) hpp i0 i1).1 u hu
  rw [← hh] at p1
  have hG2 := zsc_G0 p2 hG
  have e6 := (zsc_pl hG hP p2 n0 nP i).1
  rw [← hpl] at e6
  have hb1 := hc (n + 1)
  rw [zpx_f r2] at hb1
  have hhn := hhb n
  have hw2 : Unit → zw32 (((zwc wt n : Nat) : Int) + 1) = ((zwc wt n + 1 : Nat) : Int) := fun _ => by
    have := (hb n).1
    exact zupn (by omega)
  by_cases s : 0 ≤ pl n
  · rw [zsy_t s] at hb1
    have s2 : ¬ pl n < 0 := by omega
    have hw1 : Unit → zw64 (zpx wt (zsy h pl) n * h n) = zpx wt (zsy h pl) n * h n := fun _ => by
      clear hw2
      exact zw64_id (by omega) (by omega)
    have hp : Unit → zw32 (((n : Nat) : Int) + 1) = ((n + 1 : Nat) : Int) := fun _ => zupn (by omega)
    refine ⟨zpx wt (zsy h pl) (n + 1), ((zwc wt (n + 1) : Nat) : Int), ((n + 1 : Nat) : Int), u1, ⟨rfl, rfl, rfl, p2⟩, ?_⟩
    show zgf 1 3 34 u _ = _
    rw [gf_34, show ((3 : Nat) : Int) = 3 from rfl, e34, if_neg c, if_neg c7, gq_34_1 hG1, aq_35 hG1 n0 n1, vcP_of n0 n1 eb, zjn_ok, if_neg r, vq_21 p1, gq_34_1 hG2, aq_35 hG2 n0 n1, vcP_of n0 n1 e6, zjn_ok, if_neg s2]
    dsimp only
    rw [hw1 (), hw2 (), hp (), zpx_f r2, zwc_f r2, zsy_t s]
  · rw [zsy_f s] at hb1
    have s2 : pl n < 0 := by omega
    have hw3 : Unit → zw32 (100 - h n) = 100 - h n := fun _ => by
      clear hw2
      exact zw32_id (by omega) (by omega)
    have hw1 : Unit → zw64 (zpx wt (zsy h pl) n * (100 - h n)) = zpx wt (zsy h pl) n * (100 - h n) := fun _ => by
      clear hw2 hw3
      exact zw64_id (by omega) (by omega)
    have hp : Unit → zw32 (((n : Nat) : Int) + 1) = ((n + 1 : Nat) : Int) := fun _ => zupn (by omega)
    refine ⟨zpx wt (zsy h pl) (n + 1), ((zwc wt (n + 1) : Nat) : Int), ((n + 1 : Nat) : Int), u1, ⟨rfl, rfl, rfl, p2⟩, ?_⟩
    show zgf 1 3 34 u _ = _
    rw [gf_34, show ((3 : Nat) : Int) = 3 from rfl, e34, if_neg c, if_neg c7, gq_34_1 hG1, aq_35 hG1 n0 n1, vcP_of n0 n1 eb, zjn_ok, if_neg r, vq_21 p1, gq_34_1 hG2, aq_35 hG2 n0 n1, vcP_of n0 n1 e6, zjn_ok, if_pos s2]
    dsimp only
    rw [hw3 (), hw1 (), hw2 (), hp (), zpx_f r2, zwc_f r2, zsy_f s]
set_option maxHeartbeats 400000 in
theorem s1_ifNot {μ u : zMem} (hG : zG0 μ) (hP : zGP μ) (hu : zsc μ u) {P : Nat} (hPn : μ 34 3 = P) {i : Int} {wt pl : Int → Int} (hwt : ∀ p, wt p = μ (zbP p) 2) (hpl : ∀ p, pl p = zpo μ p i) : fX1_chanceIfNot 34 i u = some (zpx wt (zsn pl) P, u) := by
  have h10 := hP.1.2.1
  have hb := zpx_b (wt := wt) (zsn_b (pl := pl))
  have hc := zpx_c (wt := wt) (zsn_b (pl := pl))
  have e34 : u 34 3 = (P : Int) := (hu _ _ (by omega) (by omega) (by omega) (by omega) (by omega)).trans hPn
  have hG1 := zsc_G0 hu hG
  rw [eX1_chanceIfNot]
  unfold lX1_chanceIfNot_1
  refine zlx3 (G := fun R => R = some (zpx wt (zsn pl) P, u)) (fun n x y z v => x = zpx wt (zsn pl) n ∧ y = ((zwc wt n : Nat) : Int) ∧ z = (n : Int) ∧ v = u) P (by omega) ?_ ⟨rfl, rfl, rfl, rfl⟩
  intro k n x y z v hn hI
  obtain ⟨rfl, rfl, rfl, rfl⟩ := hI
  by_cases q : n = P
  · right
    show zgf 1 3 34 v _ = _
    rw [gf_34, show ((3 : Nat) : Int) = 3 from rfl, e34, if_pos (by rw [q]; exact Int.le_refl _), q]
  have c : ¬ (n : Int) ≥ (P : Int) := by omega
  by_cases q7 : 7 ≤ zwc wt n
  · right
    have c7 : ((zwc wt n : Nat) : Int) ≥ 7 := by omega
    show zgf 1 3 34 v _ = _
    rw [gf_34, show ((3 : Nat) : Int) = 3 from rfl, e34, if_neg c, if_pos c7, zpx_e q7 hn]
  left
  refine ⟨by omega, ?_⟩
  have c7 : ¬ ((zwc wt n : Nat) : Int) ≥ 7 := by omega
  have n0 : (0 : Int) ≤ n := by omega
  have n1 : (n : Int) < 10 := by omega
  have nP : (n : Int) < μ 34 3 := by omega
  have hz : zbP n = 53 + 6 * (n : Int) := rfl
  have ew : v (zbP n) 2 = wt n := by
    rw [hwt]
    exact hu _ _ (by omega) (by omega) (by omega) (by omega) (by omega)
  have eb := s6_by (μ := v) n0 n1
  rw [ew] at eb
  by_cases r : wt n < 0
  · have hp : Unit → zw32 (((n : Nat) : Int) + 1) = ((n + 1 : Nat) : Int) := fun _ => zupn (by omega)
    refine ⟨zpx wt (zsn pl) (n + 1), ((zwc wt (n + 1) : Nat) : Int), ((n + 1 : Nat) : Int), v, ⟨rfl, rfl, rfl, rfl⟩, ?_⟩
    show zgf 1 3 34 v _ = _
    rw [gf_34, show ((3 : Nat) : Int) = 3 from rfl, e34, if_neg c, if_neg c7, gq_34_1 hG1, aq_35 hG1 n0 n1, vcP_of n0 n1 eb, zjn_ok, if_pos r, hp (), zpx_t (Or.inl r), zwc_t (Or.inl r)]
  have r2 : ¬ (wt n < 0 ∨ 7 ≤ zwc wt n) := fun z => by
    rcases z with z | z
    · exact r z
    · exact q7 z
  have e6 := (zsc_pl hG hP hu n0 nP i).1
  rw [← hpl] at e6
  have hb1 := hc (n + 1)
  rw [zpx_f r2] at hb1
  have hw2 : Unit → zw32 (((zwc wt n : Nat) : Int) + 1) = ((zwc wt n + 1 : Nat) : Int) := fun _ => by
    have := (hb n).1
    exact zupn (by omega)
  by_cases s : 0 ≤ pl n
  · rw [zsn_t s] at hb1
    have s2 : ¬ pl n < 0 := by omega
    have hw1 : Unit → zw64 (zpx wt (zsn pl) n * 0) = zpx wt (zsn pl) n * 0 := fun _ => by
      clear hw2
      exact zw64_id (by omega) (by omega)
    have hp : Unit → zw32 (((n : Nat) : Int) + 1) = ((n + 1 : Nat) : Int) := fun _ => zupn (by omega)
    refine ⟨zpx wt (zsn pl) (n + 1), ((zwc wt (n + 1) : Nat) : Int), ((n + 1 : Nat) : Int), v, ⟨rfl, rfl, rfl, rfl⟩, ?_⟩
    show zgf 1 3 34 v _ = _
    rw [gf_34, show ((3 : Nat) : Int) = 3 from rfl, e34, if_neg c, if_neg c7, gq_34_1 hG1, aq_35 hG1 n0 n1, vcP_of n0 n1 eb, zjn_ok, if_neg r, gq_34_1 hG1, aq_35 hG1 n0 n1, vcP_of n0 n1 e6, zjn_ok, if_neg s2]
    dsimp only
    rw [hw1 (), hw2 (), hp (), zpx_f r2, zwc_f r2, zsn_t s]
  · rw [zsn_f s] at hb1
    have s2 : pl n < 0 := by omega
    have hw1 : Unit → zw64 (zpx wt (zsn pl) n * 100) = zpx wt (zsn pl) n * 100 := fun _ => by
      clear hw2
      exact zw64_id (by omega) (by omega)
    have hp : Unit → zw32 (((n : Nat) : Int) + 1) = ((n + 1 : Nat) : Int) := fun _ => zupn (by omega)
    refine ⟨zpx wt (zsn pl) (n + 1), ((zwc wt (n + 1) : Nat) : Int), ((n + 1 : Nat) : Int), v, ⟨rfl, rfl, rfl, rfl⟩, ?_⟩
    show zgf 1 3 34 v _ = _
    rw [gf_34, show ((3 : Nat) : Int) = 3 from rfl, e34, if_neg c, if_neg c7, gq_34_1 hG1, aq_35 hG1 n0 n1, vcP_of n0 n1 eb, zjn_ok, if_neg r, gq_34_1 hG1, aq_35 hG1 n0 n1, vcP_of n0 n1 e6, zjn_ok, if_pos s2]
    dsimp only
    rw [hw1 (), hw2 (), hp (), zpx_f r2, zwc_f r2, zsn_f s]
/-! ### the greatest number that goes into both -/
set_option maxHeartbeats 400000 in
theorem zgr (a b : Nat) : Nat.gcd a b = Nat.gcd b (a % b) := by rw [Nat.gcd_comm a b, Nat.gcd_rec b a, Nat.gcd_comm]
set_option maxHeartbeats 400000 in
theorem zgh {b c k : Nat} (hc : 0 < c) (hcb : c < b) (hb : b < 2 ^ (k + 1)) : b % c < 2 ^ k := by
  have h1 : b % c < c := Nat.mod_lt _ hc
  have h2 : b % c ≤ b - c := by
    rw [Nat.mod_eq_sub_mod (by omega)]
    exact Nat.mod_le _ _
  have h3 : 2 ^ (k + 1) = 2 ^ k * 2 := by rw [Nat.pow_succ]
  omega
def zGX (k5 : Int → Int → Int → zMem → zRs) (v1 v2 v3 : Int) (u4 : zMem) : zRs := if v3 ≥ 1000 then (some (v1, u4)) else (if (zcmp v2 0) = 0 then (some (v1, u4)) else (znz v2 (k5 v2 (Int.tmod v1 v2) (zw32 (v3 + 1)) u4)))
def zGb : Int → Int → Int → zMem → zRs := fun _ _ _ _ => none
def zGY (k4 : Int → Int → zMem → zRs) (v1 v2 : Int) (u3 : zMem) : zRs := if (zcmp v2 0) = 0 then (some (v1, u3)) else (znz v2 (k4 v2 (Int.tmod v1 v2) u3))
def zGc : Int → Int → zMem → zRs := fun _ _ _ => none
set_option maxHeartbeats 400000 in
theorem zGX_0 {k : Int → Int → Int → zMem → zRs} {a : Int} {j : Nat} {u : zMem} (hj : j < 1000) : zGX k a ((0 : Nat) : Int) j u = some (a, u) := by
  unfold zGX
  rw [if_neg (by omega), if_pos (by decide)]
set_option maxHeartbeats 400000 in
theorem zGX_1 {k : Int → Int → Int → zMem → zRs} {a b j : Nat} {u : zMem} (hj : j < 1000) (hb : b ≠ 0) : zGX k a b j u = k b ((a % b : Nat) : Int) ((j + 1 : Nat) : Int) u := by
  have h1 : ¬ (j : Int) ≥ 1000 := by omega
  have h2 : ¬ zcmp (b : Int) 0 = 0 := by rw [zcmp_0]; omega
  have h3 : ¬ (b : Int) = 0 := by omega
  have hp : Unit → zw32 (((j : Nat) : Int) + 1) = ((j + 1 : Nat) : Int) := fun _ => zupn (by omega)
  unfold zGX
  rw [if_neg h1, if_neg h2, znz_ok h3, hp ()]
  rfl
set_option maxHeartbeats 400000 in
theorem zGY_0 {k : Int → Int → zMem → zRs} {a : Int} {u : zMem} : zGY k a ((0 : Nat) : Int) u = some (a, u) := by
  unfold zGY
  rw [if_pos (by decide)]
set_option maxHeartbeats 400000 in
theorem zGY_1 {k : Int → Int → zMem → zRs} {a b : Nat} {u : zMem} (hb : b ≠ 0) : zGY k a b u = k b ((a % b : Nat) : Int) u := by
  have h2 : ¬ zcmp (b : Int) 0 = 0 := by rw [zcmp_0]; omega
  have h3 : ¬ (b : Int) = 0 := by omega
  unfold zGY
  rw [if_neg h2, znz_ok h3]
  rfl
set_option maxHeartbeats 400000 in
theorem zgc_c : ∀ (k a b j fuel : Nat) (u : zMem), b < 2 ^ k → 2 * k + 2 ≤ fuel → j + (2 * k + 2) ≤ 1000 → zlp zGb zGX fuel (a : Int) (b : Int) (j : Int) u = some (((Nat.gcd a b : Nat) : Int), u)
  | 0, a, b, j, fuel, u, hb, hf, hj => by
    have e : b = 0 := by
      have : b < 1 := hb
      omega
    subst e
    obtain ⟨f, rfl⟩ : ∃ f, fuel = f + 1 := ⟨fuel - 1, by omega⟩
    rw [zlp_S, zGX_0 (by omega), Nat.gcd_zero_right]
  | k + 1, a, b, j, fuel, u, hb, hf, hj => by
    obtain ⟨f, rfl⟩ : ∃ f, fuel = f + 1 + 1 := ⟨fuel - 2, by omega⟩
    by_cases e : b = 0
    · subst e
      rw [zlp_S, zGX_0 (by omega), Nat.gcd_zero_right]
    · rw [zlp_S, zGX_1 (by omega) e, zgr a b]
      have hc : a % b < b := Nat.mod_lt _ (by omega)
      by_cases e2 : a % b = 0
      · rw [e2, zlp_S, zGX_0 (by omega), Nat.gcd_zero_right]
      · rw [zlp_S, zGX_1 (by omega) e2, zgr b (a % b)]
        exact zgc_c k (a % b) (b % (a % b)) (j + 1 + 1) f u (zgh (by omega) hc hb) (by omega) (by omega)
set_option maxHeartbeats 400000 in
theorem zgc_r : ∀ (k a b fuel : Nat) (u : zMem), b < 2 ^ k → 2 * k + 2 ≤ fuel → zlp zGc zGY fuel (a : Int) (b : Int) u = some (((Nat.gcd a b : Nat) : Int), u)
  | 0, a, b, fuel, u, hb, hf => by
    have e : b = 0 := by
      have : b < 1 := hb
      omega
    subst e
    obtain ⟨f, rfl⟩ : ∃ f, fuel = f + 1 := ⟨fuel - 1, by omega⟩
    rw [zlp_S, zGY_0, Nat.gcd_zero_right]
  | k + 1, a, b, fuel, u, hb, hf => by
    obtain ⟨f, rfl⟩ : ∃ f, fuel = f + 1 + 1 := ⟨fuel - 2, by omega⟩
    by_cases e : b = 0
    · subst e
      rw [zlp_S, zGY_0, Nat.gcd_zero_right]
    · rw [zlp_S, zGY_1 e, zgr a b]
      have hc : a % b < b := Nat.mod_lt _ (by omega)
      by_cases e2 : a % b = 0
      · rw [e2, zlp_S, zGY_0, Nat.gcd_zero_right]
      · rw [zlp_S, zGY_1 e2, zgr b (a % b)]
        exact zgc_r k (a % b) (b % (a % b)) f u (zgh (by omega) hc hb) (by omega)
set_option maxHeartbeats 400000 in
theorem s10_common {a b : Nat} {u : zMem} (hb : b < 72057594037927936) : fX10_commonDivisor (a : Int) (b : Int) u = some (((Nat.gcd a b : Nat) : Int), u) := by
  have h := zgc_c 56 a b 0 1000000 u (by omega) (by omega) (by omega)
  rw [eX10_commonDivisor]
  exact h
set_option maxHeartbeats 400000 in
theorem s11_common {a b : Nat} {u : zMem} (hb : b < 72057594037927936) : fX11_common (a : Int) (b : Int) u = some (((Nat.gcd a b : Nat) : Int), u) := by
  have h := zgc_r 56 a b 1000000 u (by omega) (by omega)
  rw [eX11_common]
  exact h
set_option maxHeartbeats 400000 in
theorem zwm {x c : Int} (x0 : 0 ≤ x) (x1 : x ≤ 100) (c0 : 0 ≤ c) (c1 : c ≤ 100000000000000) : 0 ≤ x * c ∧ x * c ≤ 10000000000000000 ∧ (Unit → zw64 (x * c) = x * c) := by
  have a1 : 0 ≤ x * c := Int.mul_nonneg x0 c0
  have a2 : x * c ≤ 100 * 100000000000000 := Int.mul_le_mul x1 c1 c0 (by decide)
  exact ⟨a1, by omega, fun _ => zw64_id (by omega) (by omega)⟩
def zsa (a b : Nat) (x3 : Int) : Int := if (a : Int) ≠ 0 then (if x3 ≠ 0 then zw64 (Int.tdiv (b : Int) ((Nat.gcd a b : Nat) : Int)) else zw64 (Int.tdiv (a : Int) ((Nat.gcd a b : Nat) : Int))) else x3
set_option maxHeartbeats 400000 in
theorem zgq {a b : Nat} (c : ¬ (a : Int) = 0) : ¬ ((Nat.gcd a b : Nat) : Int) = 0 := by
  have := Nat.gcd_pos_of_pos_left (m := a) b (by omega)
  omega
set_option maxHeartbeats 400000 in
theorem s11_end {a b : Nat} {x3 : Int} {u : zMem} (hb : b < 72057594037927936) : (if zcmp (a : Int) 0 ≠ 0 then zcall (fX11_common (a : Int) (b : Int) u) (fun v16 u17 => if x3 ≠ 0 then znz v16 (some (zw64 (Int.tdiv (b : Int) v16), u17)) else znz v16 (some (zw64 (Int.tdiv (a : Int) v16), u17))) else some (x3, u)) = some (zsa a b x3, u) := by
  unfold zsa
  by_cases c : (a : Int) = 0
  · have c2 : ¬ zcmp (a : Int) 0 ≠ 0 := by rw [ne_eq, zcmp_0]; exact fun q => q c
    rw [if_neg c2, if_neg (fun q => q c)]
  · have c2 : zcmp (a : Int) 0 ≠ 0 := by rw [ne_eq, zcmp_0]; exact c
    rw [if_pos c2, zcall_of (s11_common hb), if_pos c]
    by_cases d : x3 ≠ 0
    · rw [if_pos d, if_pos d, znz_ok (zgq c)]
    · rw [if_neg d, if_neg d, znz_ok (zgq c)]
set_option maxHeartbeats 400000 in
theorem s10_end {a b : Nat} {x3 : Int} {u : zMem} : (if zcmp (a : Int) 0 = 0 then some (x3, u) else if zcmp ((Nat.gcd a b : Nat) : Int) 0 ≠ 0 then (if x3 ≠ 0 then znz ((Nat.gcd a b : Nat) : Int) (some (zw64 (Int.tdiv (b : Int) ((Nat.gcd a b : Nat) : Int)), u)) else znz ((Nat.gcd a b : Nat) : Int) (some (zw64 (Int.tdiv (a : Int) ((Nat.gcd a b : Nat) : Int)), u))) else some (x3, u)) = some (zsa a b x3, u) := by
  unfold zsa
  by_cases c : (a : Int) = 0
  · have c2 : zcmp (a : Int) 0 = 0 := by rw [zcmp_0]; exact c
    rw [if_pos c2, if_neg (fun q => q c)]
  · have c2 : ¬ zcmp (a : Int) 0 = 0 := by rw [zcmp_0]; exact c
    have c3 : zcmp ((Nat.gcd a b : Nat) : Int) 0 ≠ 0 := by rw [ne_eq, zcmp_0]; exact zgq c
    rw [if_neg c2, if_pos c3, if_pos c]
    by_cases d : x3 ≠ 0
    · rw [if_pos d, if_pos d, znz_ok (zgq c)]
    · rw [if_neg d, if_neg d, znz_ok (zgq c)]
set_option maxHeartbeats 400000 in
theorem s11_said_1 {μ v : zMem} (hG : zG0 μ) (hP : zGP μ) {H : Int → Int → Int} (hH : zhd μ H) (hv : zsc μ v) {P : Nat} (hPn : μ 34 3 = P) {i : Int} (i0 : 0 ≤ i) (i1 : i < μ 6 1) {wt h pl : Int → Int} (hwt : ∀ p, wt p = μ (zbP p) 2) (hh : ∀ p, h p = H (wt p) i) (hpl : ∀ p, pl p = zpo μ p i) {x2 x3 : Int} (x0 : 1 ≤ x2) (x1 : x2 ≤ 99) {a b : Nat} (hA : x2 * zpx wt (zsy h pl) P = a) (hB : (a : Int) + (100 - x2) * zpx wt (zsn pl) P = b) (hb16 : b < 72057594037927936) : ∃ u', zsc μ u' ∧ lX11_said_1 129 i x3 x2 (100 - x2) 0 0 v = some (zsa a b x3, u') := by
  have h10 := hP.1.2.1
  have h20 := hP.1.2.2
  have hhb : ∀ p, 0 ≤ h p ∧ h p ≤ 100 := fun p => by rw [hh]; exact hH.1 _ _
  have hb := zpx_b (wt := wt) (zsy_b (pl := pl) hhb)
  have hc := zpx_c (wt := wt) (zsy_b (pl := pl) hhb)
  have hd := zpx_c (wt := wt) (zsn_b (pl := pl))
  have hB2 : Unit → zw64 ((a : Int) + (100 - x2) * zpx wt (zsn pl) P) = b := fun _ => by
    rw [hB]
    exact zw64_id (by omega) (by omega)
  have fin : ∀ u : zMem, (if zcmp (x2 * zpx wt (zsy h pl) P) 0 ≠ 0 then zcall (fX11_common (x2 * zpx wt (zsy h pl) P) (zw64 (x2 * zpx wt (zsy h pl) P + (100 - x2) * zpx wt (zsn pl) P)) u) (fun v16 u17 => if x3 ≠ 0 then znz v16 (some (zw64 (Int.tdiv (zw64 (x2 * zpx wt (zsy h pl) P + (100 - x2) * zpx wt (zsn pl) P)) v16), u17)) else znz v16 (some (zw64 (Int.tdiv (x2 * zpx wt (zsy h pl) P) v16), u17))) else some (x3, u)) = some (zsa a b x3, u) := fun u => by
    rw [hA, hB2 ()]
    exact s11_end hb16
  clear hB2
  unfold lX11_said_1
  refine zlx4 (G := fun R => ∃ u', zsc μ u' ∧ R = some (zsa a b x3, u')) (fun n x y z t u => x = x2 * zpx wt (zsy h pl) n ∧ y = (100 - x2) * zpx wt (zsn pl) n ∧ z = ((zwc wt n : Nat) : Int) ∧ t = (n : Int) ∧ zsc μ u) P (by omega) ?_ ⟨(Int.mul_one _).symm, (Int.mul_one _).symm, rfl, rfl, hv⟩
  intro k n x y z t u hn hI
  obtain ⟨rfl, rfl, rfl, rfl, hu⟩ := hI
  have e20 : u 129 20 = (P : Int) := ((hu _ _ (by omega) (by omega) (by omega) (by omega) (by omega)).trans h20).trans hPn
  have hG1 := zsc_G0 hu hG
  by_cases q : n = P
  · right
    refine ⟨u, hu, ?_⟩
    have c : (n : Int) ≥ (P : Int) := by omega
    show zgf 11 20 129 u _ = _
    rw [gf_129, show ((20 : Nat) : Int) = 20 from rfl, e20, zjn_ok, if_pos c, q]
    exact fin u
  have c : ¬ (n : Int) ≥ (P : Int) := by omega
  by_cases q7 : 7 ≤ zwc wt n
  · right
    have c7 : ((zwc wt n : Nat) : Int) ≥ 7 := by omega
    refine ⟨u, hu, ?_⟩
    show zgf 11 20 129 u _ = _
    rw [gf_129, show ((20 : Nat) : Int) = 20 from rfl, e20, zjn_ok, if_neg c, if_pos c7, ← zpx_e (g := zsy h pl) q7 hn, ← zpx_e (g := zsn pl) q7 hn]
    exact fin u
  clear fin
  left
  refine ⟨by omega, ?_⟩
  have c7 : ¬ ((zwc wt n : Nat) : Int) ≥ 7 := by omega
  have n0 : (0 : Int) ≤ n := by omega
  have n1 : (n : Int) < 10 := by omega
  have nP : (n : Int) < μ 34 3 := by omega
  have hz : zbP n = 53 + 6 * (n : Int) := rfl
  have hpp := (hP.2 n n0 nP).2.1
  have ew : u 140 n = wt n := by
    rw [hwt, ← hpp.1]
    exact hu _ _ (by omega) (by omega) (by omega) (by omega) (by omega)
  by_cases r : wt n < 0
  · have hp : Unit → zw32 (((n : Nat) : Int) + 1) = ((n + 1 : Nat) : Int) := fun _ => zupn (by omega)
    refine ⟨x2 * zpx wt (zsy h pl) (n + 1), (100 - x2) * zpx wt (zsn pl) (n + 1), ((zwc wt (n + 1) : Nat) : Int), ((n + 1 : Nat) : Int), u, ⟨rfl, rfl, rfl, rfl, hu⟩, ?_⟩
    show zgf 11 20 129 u _ = _
    rw [gf_129, show ((20 : Nat) : Int) = 20 from rfl, e20, zjn_ok, if_neg c, if_neg c7, gq_129_21 hG1, al_140 n0 n1, ew, zjn_ok, if_pos r, hp (), zpx_t (Or.inl r), zpx_t (Or.inl r), zwc_t (Or.inl r)]
  have r2 : ¬ (wt n < 0 ∨ 7 ≤ zwc wt n) := fun z => by
    rcases z with z | z
    · exact r z
    · exact q7 z
  have hpw := hpp.2.2
  rw [← hwt] at hpw
  obtain ⟨u1, p1, p2⟩ := (hH.2 (wt n) i (by omega) hpw i0 i1).2 u hu
  rw [← hh] at p1
  have e6 := (zsc_pl hG hP p2 n0 nP i).2
  rw [← hpl] at e6
  have hb1 := hc (n + 1)
  have hd1 := hd (n + 1)
  rw [zpx_f r2] at hb1 hd1
  have hhn := hhb n
  have hw2 : Unit → zw32 (((zwc wt n : Nat) : Int) + 1) = ((zwc wt n + 1 : Nat) : Int) := fun _ => by
    have := (hb n).1
    exact zupn (by omega)
  have m1 := (zwm (x := x2) (by omega) (by omega) hb1.1 hb1.2).2.2
  have m2 := (zwm (x := 100 - x2) (by omega) (by omega) hd1.1 hd1.2).2.2
  by_cases s : 0 ≤ pl n
  · rw [zsy_t s, ← Int.mul_assoc] at m1
    rw [zsn_t s, ← Int.mul_assoc] at m2
    rw [zb_t s] at e6
    have hp : Unit → zw32 ((n : Int) + 1) = ((n + 1 : Nat) : Int) := fun _ => by
      clear m1 m2 hw2
      exact zupn (by omega)
    refine ⟨x2 * zpx wt (zsy h pl) (n + 1), (100 - x2) * zpx wt (zsn pl) (n + 1), ((zwc wt (n + 1) : Nat) : Int), ((n + 1 : Nat) : Int), u1, ⟨rfl, rfl, rfl, rfl, p2⟩, ?_⟩
    show zgf 11 20 129 u _ = _
    rw [gf_129, show ((20 : Nat) : Int) = 20 from rfl, e20, zjn_ok, if_neg c, if_neg c7, gq_129_21 hG1, al_140 n0 n1, ew, zjn_ok, if_neg r, gq_129_21 hG1, al_140 n0 n1, ew, vq_129 p1, vq_129 e6, zjn_ok, if_neg (by decide)]
    dsimp only
    rw [vq_129 e6, zjn_ok, if_neg (by decide)]
    dsimp only
    rw [m1 (), m2 (), hw2 (), hp (), zpx_f r2, zpx_f r2, zwc_f r2, zsy_t s, zsn_t s, Int.mul_assoc, Int.mul_assoc]
  · rw [zsy_f s, ← Int.mul_assoc] at m1
    rw [zsn_f s, ← Int.mul_assoc] at m2
    rw [zb_f s] at e6
    have hw3 : Unit → zw32 (100 - h n) = 100 - h n := fun _ => by
      clear m1 m2 hw2
      exact zw32_id (by omega) (by omega)
    have hp : Unit → zw32 ((n : Int) + 1) = ((n + 1 : Nat) : Int) := fun _ => by
      clear m1 m2 hw2 hw3
      exact zupn (by omega)
    refine ⟨x2 * zpx wt (zsy h pl) (n + 1), (100 - x2) * zpx wt (zsn pl) (n + 1), ((zwc wt (n + 1) : Nat) : Int), ((n + 1 : Nat) : Int), u1, ⟨rfl, rfl, rfl, rfl, p2⟩, ?_⟩
    show zgf 11 20 129 u _ = _
    rw [gf_129, show ((20 : Nat) : Int) = 20 from rfl, e20, zjn_ok, if_neg c, if_neg c7, gq_129_21 hG1, al_140 n0 n1, ew, zjn_ok, if_neg r, gq_129_21 hG1, al_140 n0 n1, ew, vq_129 p1, vq_129 e6, zjn_ok, if_pos rfl]
    dsimp only
    rw [vq_129 e6, zjn_ok, if_pos rfl]
    dsimp only
    rw [hw3 (), m1 (), m2 (), hw2 (), hp (), zpx_f r2, zpx_f r2, zwc_f r2, zsy_f s, zsn_f s, Int.mul_assoc, Int.mul_assoc]
set_option maxHeartbeats 400000 in
theorem op_said {μ : zMem} (hG : zG0 μ) (hS : zGS μ) (hW : zGW μ) (hP : zGP μ) (i x2 x3 : Int) : ∃ r μ1 μ2, fX10_said 5 i x2 x3 μ = some (r, μ1) ∧ fX11_said 129 i x2 x3 μ1 = some (r, μ2) ∧ zsc μ μ2 := by
  have s5 := s5_has (μ := μ) i
  have s11 := s11_isSaying hS i
  by_cases hi : 0 ≤ i ∧ i < μ 6 1
  rotate_left
  · rw [zb_f hi] at s5 s11
    refine ⟨-9223372036854775808, μ, μ, ?_, ?_, zsc_r⟩
    · rw [eX10_said, gq_5_0 hG, vq_6 s5, if_pos rfl]
    · rw [eX11_said, vq_129 s11, if_pos rfl]
  rw [zb_t hi] at s5 s11
  have wi := s11_within (μ := μ) x2 1 99
  by_cases h1 : x2 < 1
  · rw [zb_f (by omega)] at wi
    refine ⟨-9223372036854775808, μ, μ, ?_, ?_, zsc_r⟩
    · rw [eX10_said, gq_5_0 hG, vq_6 s5, if_neg (by decide), if_pos h1]
    · rw [eX11_said, vq_129 s11, if_neg (by decide), zcall_of wi, if_pos rfl]
  by_cases h2 : x2 > 99
  · rw [zb_f (by omega)] at wi
    refine ⟨-9223372036854775808, μ, μ, ?_, ?_, zsc_r⟩
    · rw [eX10_said, gq_5_0 hG, vq_6 s5, if_neg (by decide), if_neg h1, if_pos h2]
    · rw [eX11_said, vq_129 s11, if_neg (by decide), zcall_of wi, if_pos rfl]
  rw [zb_t (by omega)] at wi
  have ch := s10_isChoice (μ := μ) x3
  have wj := s11_within (μ := μ) x3 0 1
  by_cases h3 : 0 ≤ x3 ∧ x3 ≤ 1
  rotate_left
  · rw [zb_f h3] at ch wj
    refine ⟨-9223372036854775808, μ, μ, ?_, ?_, zsc_r⟩
    · rw [eX10_said, gq_5_0 hG, vq_6 s5, if_neg (by decide), if_neg h1, if_neg h2, zcall_of ch, if_neg (fun q => q rfl)]
    · rw [eX11_said, vq_129 s11, if_neg (by decide), zcall_of wi, if_neg (by decide), zcall_of wj, if_neg (fun q => q rfl)]
  rw [zb_t h3] at ch
  obtain ⟨p0, p10, p20⟩ := hP.1
  obtain ⟨P, hPn⟩ : ∃ P : Nat, μ 34 3 = P := ⟨(μ 34 3).toNat, by omega⟩
  obtain ⟨H, hH⟩ := zheeds hG hS hW
  obtain ⟨wt, hwt⟩ : ∃ wt : Int → Int, ∀ p, wt p = μ (zbP p) 2 := ⟨_, fun _ => rfl⟩
  obtain ⟨h, hh⟩ : ∃ h : Int → Int, ∀ p, h p = H (wt p) i := ⟨_, fun _ => rfl⟩
  obtain ⟨pl, hpl⟩ : ∃ pl : Int → Int, ∀ p, pl p = zpo μ p i := ⟨_, fun _ => rfl⟩
  have hhb : ∀ p, 0 ≤ h p ∧ h p ≤ 100 := fun p => by rw [hh]; exact hH.1 _ _
  have b1 := zpx_c (wt := wt) (zsy_b (pl := pl) hhb) P
  have b2 := zpx_c (wt := wt) (zsn_b (pl := pl)) P
  obtain ⟨a1, a2, a3⟩ := zwm (x := x2) (by omega) (by omega) b1.1 b1.2
  obtain ⟨a4, a5, a6⟩ := zwm (x := 100 - x2) (by omega) (by omega) b2.1 b2.2
  obtain ⟨a, ha⟩ : ∃ a : Nat, x2 * zpx wt (zsy h pl) P = a := ⟨(x2 * zpx wt (zsy h pl) P).toNat, by omega⟩
  obtain ⟨b, hb⟩ : ∃ b : Nat, (a : Int) + (100 - x2) * zpx wt (zsn pl) P = b := ⟨((a : Int) + (100 - x2) * zpx wt (zsn pl) P).toNat, by omega⟩
  have hb16 : b < 72057594037927936 := by
    clear a3 a6
    omega
  have hb64 : Unit → zw64 (b : Int) = b := fun _ => by
    clear a3 a6
    exact zw64_id (by omega) (by omega)
  have hx : Unit → zw32 (100 - x2) = 100 - x2 := fun _ => by
    clear a3 a6 hb64
    exact zw32_id (by omega) (by omega)
  rw [ha] at a3
  obtain ⟨u1, r1, r2⟩ := s1_ifSaid hG hP hH (zsc_r (μ := μ)) hPn hi.1 hi.2 hwt hh hpl
  have r3 := s1_ifNot hG hP r1 hPn hwt hpl
  have hG1 := zsc_G0 r1 hG
  obtain ⟨u2, t1, t2⟩ := s11_said_1 (x3 := x3) hG hP hH r1 hPn hi.1 hi.2 hwt hh hpl (by clear a3 a6 hb64 hx; omega) (by clear a3 a6 hb64 hx; omega) ha hb hb16
  refine ⟨zsa a b x3, u1, u2, ?_, ?_, t1⟩
  · rw [eX10_said, gq_5_0 hG, vq_6 s5, if_neg (by decide), if_neg h1, if_neg h2, zcall_of ch, if_pos (by decide), gq_5_4 hG, gq_5_3 hG, vq_34 r2, gq_5_4 hG1, vq_34 r3, ha, a3 (), hx (), a6 (), hb, hb64 (), zcall_of (s10_common hb16), zjn_ok]
    exact s10_end
  · have e6 : u1 6 1 = μ 6 1 := r1 _ _ (by clear a3 a6 hb64 hx; omega) (by clear a3 a6 hb64 hx; omega) (by clear a3 a6 hb64 hx; omega) (by clear a3 a6 hb64 hx; omega) (by clear a3 a6 hb64 hx; omega)
    have s11' := s11_isSaying (zsc_GS r1 hS) i
    rw [e6, zb_t hi] at s11'
    have wi' := s11_within (μ := u1) x2 1 99
    rw [zb_t (by clear a3 a6 hb64 hx; omega)] at wi'
    have wj' := s11_within (μ := u1) x3 0 1
    rw [zb_t h3] at wj'
    rw [eX11_said, vq_129 s11', if_neg (by decide), zcall_of wi', if_neg (by decide), zcall_of wj', if_pos (by decide), hx ()]
    exact t2
