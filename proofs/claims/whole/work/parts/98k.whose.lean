/-! ===== whose ===== -/
set_option maxHeartbeats 400000 in
theorem zsc_GP {μ u : zMem} (h : zsc μ u) (hP : zGP μ) : zGP u := zGP_keep hP (fun a j q => zsc_k h a j (fun p => by
  revert q p
  generalize ztag a j = t
  intro q p
  simp only [List.mem_cons, List.not_mem_nil, or_false] at q p
  omega)) (Int.le_of_eq (h _ _ (by omega) (by omega) (by omega) (by omega) (by omega)).symm) (Int.le_of_eq (h _ _ (by omega) (by omega) (by omega) (by omega) (by omega)).symm)
/-- the place of saying i in paper p -/
def zpo (μ : zMem) (p i : Int) : Int := zpl (μ (zbP p + 2)) i (μ (zbP p) 1).toNat 0
set_option maxHeartbeats 400000 in
theorem zsc_pl {μ u : zMem} (hG : zG0 μ) (hP : zGP μ) (hu : zsc μ u) {p : Int} (p0 : 0 ≤ p) (p1 : p < μ 34 3) (i : Int) : fX6_placeOf (zbP p) i u = some (zpo μ p i, u) ∧ fX11_has 129 p i u = some (zb (0 ≤ zpo μ p i), u) := by
  have hz : zbP p = 53 + 6 * p := rfl
  have hGu := zsc_G0 hu hG
  have hPu := zsc_GP hu hP
  have e34 : u 34 3 = μ 34 3 := hu _ _ (by omega) (by omega) (by omega) (by omega) (by omega)
  have h10 := hP.1.2.1
  have hpp := hPu.2 p p0 (by omega)
  have e2 : u (zbP p + 2) = μ (zbP p + 2) := funext (fun j => hu _ _ (by omega) (by omega) (by omega) (by omega) (by omega))
  have e1 : u (zbP p) 1 = μ (zbP p) 1 := hu _ _ (by omega) (by omega) (by omega) (by omega) (by omega)
  unfold zpo
  rw [← e2, ← e1]
  exact ⟨s6_placeOf hGu p0 (by omega) ⟨hpp.1.1, hpp.1.2.1⟩ i, s11_has hGu p0 (by omega) hpp i⟩
def zkh (H : Int → Int → Int) (pl : Int → Int) (w i : Int) : Int := if 0 ≤ pl i then H w i else 100 - H w i
set_option maxHeartbeats 400000 in
theorem zkh_t {H : Int → Int → Int} {pl : Int → Int} {w i : Int} (h : 0 ≤ pl i) : zkh H pl w i = H w i := if_pos h
set_option maxHeartbeats 400000 in
theorem zkh_f {H : Int → Int → Int} {pl : Int → Int} {w i : Int} (h : ¬ 0 ≤ pl i) : zkh H pl w i = 100 - H w i := if_neg h
def zcc (H : Int → Int → Int) (pl : Int → Int) (w : Int) : Nat → Int
  | 0 => 1000000000
  | n + 1 => Int.tdiv (zcc H pl w n * zkh H pl w n) 100
set_option maxHeartbeats 400000 in
theorem zcc_S {H : Int → Int → Int} {pl : Int → Int} {w : Int} {n : Nat} : zcc H pl w (n + 1) = Int.tdiv (zcc H pl w n * zkh H pl w n) 100 := rfl
set_option maxHeartbeats 400000 in
theorem zcq {c h : Int} (c0 : 0 ≤ c) (c1 : c ≤ 1000000000) (h0 : 0 ≤ h) (h1 : h ≤ 100) : 0 ≤ Int.tdiv (c * h) 100 ∧ Int.tdiv (c * h) 100 ≤ 1000000000 ∧ zw64 (Int.tdiv (zw64 (c * h)) 100) = Int.tdiv (c * h) 100 := by
  have a1 : 0 ≤ c * h := Int.mul_nonneg c0 h0
  have a2 : c * h ≤ 1000000000 * 100 := Int.mul_le_mul c1 h1 h0 (by decide)
  rw [zw64_id (x := c * h) (by omega) (by omega), Int.tdiv_eq_ediv_of_nonneg a1]
  have b1 : 0 ≤ c * h / 100 := by omega
  have b2 : c * h / 100 ≤ 1000000000 := by omega
  exact ⟨b1, b2, zw64_id (by omega) (by omega)⟩
set_option maxHeartbeats 400000 in
theorem zkh_b {H : Int → Int → Int} (hH : ∀ w s, 0 ≤ H w s ∧ H w s ≤ 100) {pl : Int → Int} {w i : Int} : 0 ≤ zkh H pl w i ∧ zkh H pl w i ≤ 100 := by
  have := hH w i
  by_cases q : 0 ≤ pl i
  · rw [zkh_t q]; exact this
  · rw [zkh_f q]; omega
set_option maxHeartbeats 400000 in
theorem zcc_b {H : Int → Int → Int} (hH : ∀ w s, 0 ≤ H w s ∧ H w s ≤ 100) {pl : Int → Int} {w : Int} : ∀ n, 0 ≤ zcc H pl w n ∧ zcc H pl w n ≤ 1000000000
  | 0 => ⟨(by decide : (0 : Int) ≤ 1000000000), Int.le_refl (1000000000 : Int)⟩
  | n + 1 => by
    have ih := zcc_b hH (pl := pl) (w := w) n
    have hb := zkh_b hH (pl := pl) (w := w) (i := (n : Int))
    have := zcq ih.1 ih.2 hb.1 hb.2
    rw [zcc_S]
    exact ⟨this.1, this.2.1⟩
set_option maxHeartbeats 400000 in
theorem s3_chance {μ v : zMem} (hG : zG0 μ) (hS : zGS μ) (hP : zGP μ) {H : Int → Int → Int} (hH : zhd μ H) (hv : zsc μ v) {w p : Int} (w0 : 0 ≤ w) (wW : w < μ 21 3) (p0 : 0 ≤ p) (p1 : p < μ 34 3) {N : Nat} (hN : μ 6 1 = N) : ∃ u', zsc μ u' ∧ fX3_chanceOf 21 w (zbP p) v = some (zcc H (zpo μ p) w N, u') := by
  have h16 := hS.2.1
  have h10 := hP.1.2.1
  obtain ⟨pl, hpl⟩ : ∃ pl, pl = zpo μ p := ⟨_, rfl⟩
  rw [← hpl, eX3_chanceOf]
  unfold lX3_chanceOf_1
  refine zlg2 (G := fun R => ∃ u', zsc μ u' ∧ R = some (zcc H pl w N, u')) (fun n x y u => x = zcc H pl w n ∧ y = (n : Int) ∧ zsc μ u) N (by omega) ?_ ?_ ⟨rfl, rfl, hv⟩
  · intro k n x y u hn hI
    obtain ⟨rfl, rfl, hu⟩ := hI
    have e6 : u 6 1 = μ 6 1 := hu _ _ (by omega) (by omega) (by omega) (by omega) (by omega)
    have hG1 := zsc_G0 hu hG
    obtain ⟨u', q1, q2⟩ := (hH.2 w n w0 wW (by omega) (by omega)).1 u hu
    have hp := (zsc_pl hG hP q2 p0 p1 n).1
    rw [← hpl] at hp
    have c : ¬ (n : Int) ≥ u 6 1 := by omega
    have hb := zcc_b hH.1 (pl := pl) (w := w) n
    have hc := zkh_b hH.1 (pl := pl) (w := w) (i := (n : Int))
    have hq := (zcq hb.1 hb.2 hc.1 hc.2).2.2
    have hh := hH.1 w n
    have h1 : Unit → zw32 (100 - H w n) = 100 - H w n := fun _ => zw32_id (by omega) (by omega)
    have hup : Unit → zw32 (((n : Nat) : Int) + 1) = ((n + 1 : Nat) : Int) := fun _ => zupn (by omega)
    refine ⟨zcc H pl w (n + 1), ((n + 1 : Nat) : Int), u', ⟨rfl, rfl, q2⟩, ?_⟩
    show zgf 3 0 21 u _ = _
    rw [gq_21_0 hG1, vq_6 s5_size, if_neg c, vq_21 q1, vcP_of p0 (by omega) hp, zjn_ok, zcc_S]
    by_cases r : 0 ≤ pl n
    · rw [zkh_t r] at hq
      rw [if_neg (by omega : ¬ pl n < 0), zkh_t r]
      show znz 100 (k (zw64 (Int.tdiv (zw64 (zcc H pl w n * H w n)) 100)) (zw32 ((n : Int) + 1)) u') = _
      rw [znz_ok (by decide), hq, hup ()]
    · rw [zkh_f r] at hq
      rw [if_pos (by omega : pl n < 0), zkh_f r, h1 ()]
      show znz 100 (k (zw64 (Int.tdiv (zw64 (zcc H pl w n * (100 - H w n))) 100)) (zw32 ((n : Int) + 1)) u') = _
      rw [znz_ok (by decide), hq, hup ()]
  · intro k x y u hI
    obtain ⟨rfl, rfl, hu⟩ := hI
    have e6 : u 6 1 = μ 6 1 := hu _ _ (by omega) (by omega) (by omega) (by omega) (by omega)
    have hG1 := zsc_G0 hu hG
    have c : (N : Int) ≥ u 6 1 := by omega
    refine ⟨u, hu, ?_⟩
    show zgf 3 0 21 u _ = _
    rw [gq_21_0 hG1, vq_6 s5_size, if_pos c]
set_option maxHeartbeats 400000 in
theorem s11_like {μ v : zMem} (hG : zG0 μ) (hS : zGS μ) (hP : zGP μ) {H : Int → Int → Int} (hH : zhd μ H) (hv : zsc μ v) {w p : Int} (w0 : 0 ≤ w) (wW : w < μ 21 3) (p0 : 0 ≤ p) (p1 : p < μ 34 3) {N : Nat} (hN : μ 6 1 = N) : ∃ u', zsc μ u' ∧ fX11_likeOf 129 w p v = some (zcc H (zpo μ p) w N, u') := by
  have h16 := hS.2.1
  have h6 := hS.2.2.1
  obtain ⟨pl, hpl⟩ : ∃ pl, pl = zpo μ p := ⟨_, rfl⟩
  rw [← hpl, eX11_likeOf]
  unfold lX11_likeOf_1
  refine zlg2 (G := fun R => ∃ u', zsc μ u' ∧ R = some (zcc H pl w N, u')) (fun n x y u => x = zcc H pl w n ∧ y = (n : Int) ∧ zsc μ u) N (by omega) ?_ ?_ ⟨rfl, rfl, hv⟩
  · intro k n x y u hn hI
    obtain ⟨rfl, rfl, hu⟩ := hI
    have e6 : u 129 6 = (N : Int) := ((hu _ _ (by omega) (by omega) (by omega) (by omega) (by omega)).trans h6).trans hN
    obtain ⟨u', q1, q2⟩ := (hH.2 w n w0 wW (by omega) (by omega)).2 u hu
    have hp := (zsc_pl hG hP q2 p0 p1 n).2
    rw [← hpl] at hp
    have c : ¬ (n : Int) ≥ (N : Int) := by omega
    have hb := zcc_b hH.1 (pl := pl) (w := w) n
    have hc := zkh_b hH.1 (pl := pl) (w := w) (i := (n : Int))
    have hq := (zcq hb.1 hb.2 hc.1 hc.2).2.2
    have hh := hH.1 w n
    have h1 : Unit → zw32 (100 - H w n) = 100 - H w n := fun _ => zw32_id (by omega) (by omega)
    have hup : Unit → zw32 (((n : Nat) : Int) + 1) = ((n + 1 : Nat) : Int) := fun _ => zupn (by omega)
    refine ⟨zcc H pl w (n + 1), ((n + 1 : Nat) : Int), u', ⟨rfl, rfl, q2⟩, ?_⟩
    show zgf 11 6 129 u _ = _
    rw [gf_129, show ((6 : Nat) : Int) = 6 from rfl, e6, if_neg c, vq_129 q1, vq_129 hp, zjn_ok, zcc_S]
    by_cases r : 0 ≤ pl n
    · rw [zkh_t r] at hq
      rw [zb_t r, if_neg (by decide), zkh_t r]
      show znz 100 (k (zw64 (Int.tdiv (zw64 (zcc H pl w n * H w n)) 100)) (zw32 ((n : Int) + 1)) u') = _
      rw [znz_ok (by decide), hq, hup ()]
    · rw [zkh_f r] at hq
      rw [zb_f r, if_pos rfl, zkh_f r, h1 ()]
      show znz 100 (k (zw64 (Int.tdiv (zw64 (zcc H pl w n * (100 - H w n))) 100)) (zw32 ((n : Int) + 1)) u') = _
      rw [znz_ok (by decide), hq, hup ()]
  · intro k x y u hI
    obtain ⟨rfl, rfl, hu⟩ := hI
    have e6 : u 129 6 = (N : Int) := ((hu _ _ (by omega) (by omega) (by omega) (by omega) (by omega)).trans h6).trans hN
    have c : (N : Int) ≥ (N : Int) := Int.le_refl _
    refine ⟨u, hu, ?_⟩
    show zgf 11 6 129 u _ = _
    rw [gf_129, show ((6 : Nat) : Int) = 6 from rfl, e6, if_pos c]
def zbk (v : Nat → Int) : Nat → Int × Int
  | 0 => (-2, 0)
  | n + 1 => if v n ≤ (zbk v n).2 then zbk v n else ((n : Int), v n)
set_option maxHeartbeats 400000 in
theorem zbk_t {v : Nat → Int} {n : Nat} (h : v n ≤ (zbk v n).2) : zbk v (n + 1) = zbk v n := if_pos h
set_option maxHeartbeats 400000 in
theorem zbk_f {v : Nat → Int} {n : Nat} (h : ¬ v n ≤ (zbk v n).2) : zbk v (n + 1) = ((n : Int), v n) := if_neg h
set_option maxHeartbeats 400000 in
theorem s3_likeliest {μ v : zMem} {c : Int} {f : Nat → Int} {W : Nat} (hW : μ 21 3 = W) (h4 : W ≤ 4) (hf : ∀ n : Nat, n < W → ∀ u, zsc μ u → ∃ u', zsc μ u' ∧ fX3_chanceOf 21 n c u = some (f n, u')) (hv : zsc μ v) : ∃ u', zsc μ u' ∧ fX3_likeliest 21 c v = some ((zbk f W).1, u') := by
  rw [eX3_likeliest]
  unfold lX3_likeliest_1
  refine zlg3 (G := fun R => ∃ u', zsc μ u' ∧ R = some ((zbk f W).1, u')) (fun n x y z u => x = (zbk f n).1 ∧ y = (zbk f n).2 ∧ z = (n : Int) ∧ zsc μ u) W (by omega) ?_ ?_ ⟨rfl, rfl, rfl, hv⟩
  · intro k n x y z u hn hI
    obtain ⟨rfl, rfl, rfl, hu⟩ := hI
    have e21 : u 21 3 = μ 21 3 := hu _ _ (by omega) (by omega) (by omega) (by omega) (by omega)
    obtain ⟨u', p1, p2⟩ := hf n hn u hu
    have c : ¬ (n : Int) ≥ u 21 3 := by omega
    have hp : Unit → zw32 (((n : Nat) : Int) + 1) = ((n + 1 : Nat) : Int) := fun _ => zupn (by omega)
    by_cases d : f n ≤ (zbk f n).2
    · rw [zbk_t d]
      refine ⟨(zbk f n).1, (zbk f n).2, ((n + 1 : Nat) : Int), u', ⟨rfl, rfl, rfl, p1⟩, ?_⟩
      show zgf 3 3 21 u _ = _
      rw [gf_21, show ((3 : Nat) : Int) = 3 from rfl, if_neg c, vq_21 p2, zjn_ok, if_pos (by rw [zcmp_le]; exact d), hp ()]
    · rw [zbk_f d]
      refine ⟨(n : Int), f n, ((n + 1 : Nat) : Int), u', ⟨rfl, rfl, rfl, p1⟩, ?_⟩
      show zgf 3 3 21 u _ = _
      rw [gf_21, show ((3 : Nat) : Int) = 3 from rfl, if_neg c, vq_21 p2, zjn_ok, if_neg (by rw [zcmp_le]; exact d), hp ()]
  · intro k x y z u hI
    obtain ⟨rfl, rfl, rfl, hu⟩ := hI
    have e21 : u 21 3 = μ 21 3 := hu _ _ (by omega) (by omega) (by omega) (by omega) (by omega)
    have c : (W : Int) ≥ u 21 3 := by omega
    refine ⟨u, hu, ?_⟩
    show zgf 3 3 21 u _ = _
    rw [gf_21, show ((3 : Nat) : Int) = 3 from rfl, if_pos c]
set_option maxHeartbeats 400000 in
theorem s11_whose {μ v : zMem} {c : Int} {f : Nat → Int} {W : Nat} (hW : μ 21 3 = W) (hW3 : μ 129 9 = μ 21 3) (h4 : W ≤ 4) (hf : ∀ n : Nat, n < W → ∀ u, zsc μ u → ∃ u', zsc μ u' ∧ fX11_likeOf 129 n c u = some (f n, u')) (hv : zsc μ v) : ∃ u', zsc μ u' ∧ lX11_whose_1 129 c (-2) 0 0 v = some ((zbk f W).1, u') := by
  unfold lX11_whose_1
  refine zlg3 (G := fun R => ∃ u', zsc μ u' ∧ R = some ((zbk f W).1, u')) (fun n x y z u => x = (zbk f n).1 ∧ y = (zbk f n).2 ∧ z = (n : Int) ∧ zsc μ u) W (by omega) ?_ ?_ ⟨rfl, rfl, rfl, hv⟩
  · intro k n x y z u hn hI
    obtain ⟨rfl, rfl, rfl, hu⟩ := hI
    have e9 : u 129 9 = (W : Int) := ((hu _ _ (by omega) (by omega) (by omega) (by omega) (by omega)).trans hW3).trans hW
    obtain ⟨u', p1, p2⟩ := hf n hn u hu
    have c : ¬ (n : Int) ≥ (W : Int) := by omega
    have hp : Unit → zw32 (((n : Nat) : Int) + 1) = ((n + 1 : Nat) : Int) := fun _ => zupn (by omega)
    by_cases d : f n ≤ (zbk f n).2
    · rw [zbk_t d]
      refine ⟨(zbk f n).1, (zbk f n).2, ((n + 1 : Nat) : Int), u', ⟨rfl, rfl, rfl, p1⟩, ?_⟩
      show zgf 11 9 129 u _ = _
      rw [gf_129, show ((9 : Nat) : Int) = 9 from rfl, e9, if_neg c, vq_129 p2, zjn_ok, if_pos (by rw [zcmp_le]; exact d), hp ()]
    · rw [zbk_f d]
      refine ⟨(n : Int), f n, ((n + 1 : Nat) : Int), u', ⟨rfl, rfl, rfl, p1⟩, ?_⟩
      show zgf 11 9 129 u _ = _
      rw [gf_129, show ((9 : Nat) : Int) = 9 from rfl, e9, if_neg c, vq_129 p2, zjn_ok, if_neg (by rw [zcmp_le]; exact d), hp ()]
  · intro k x y z u hI
    obtain ⟨rfl, rfl, rfl, hu⟩ := hI
    have e9 : u 129 9 = (W : Int) := ((hu _ _ (by omega) (by omega) (by omega) (by omega) (by omega)).trans hW3).trans hW
    have c : (W : Int) ≥ (W : Int) := Int.le_refl _
    refine ⟨u, hu, ?_⟩
    show zgf 11 9 129 u _ = _
    rw [gf_129, show ((9 : Nat) : Int) = 9 from rfl, e9, if_pos c]
set_option maxHeartbeats 400000 in
theorem s3_isEmpty_t {μ : zMem} (h : μ 21 3 = 0) : fX3_isEmpty 21 μ = some (1, μ) := by
  unfold fX3_isEmpty
  rw [gf_21, show ((3 : Nat) : Int) = 3 from rfl, h, if_neg (fun q => q rfl), zbl_1]
set_option maxHeartbeats 400000 in
theorem s3_isEmpty_f {μ : zMem} (h : ¬ μ 21 3 = 0) : fX3_isEmpty 21 μ = some (0, μ) := by
  unfold fX3_isEmpty
  rw [gf_21, show ((3 : Nat) : Int) = 3 from rfl, if_pos h, zbl_0]
set_option maxHeartbeats 400000 in
theorem op_whose {μ : zMem} (hG : zG0 μ) (hS : zGS μ) (hW : zGW μ) (hP : zGP μ) (p : Int) : ∃ r μ1 μ2, fX10_whose 5 p μ = some (r, μ1) ∧ fX11_whose 129 p μ1 = some (r, μ2) ∧ zsc μ μ2 := by
  have hPc := hP
  obtain ⟨⟨P0, P1, P2⟩, P3⟩ := hPc
  obtain ⟨w0, w4, w9⟩ := hW.1
  have h16 := hS.2.1
  have h00 := hS.1
  have e1 := s1_paper hG P1 p
  by_cases hp : 0 ≤ p ∧ p < μ 34 3
  rotate_left
  · have f1 := s11_isPaper hP p
    rw [if_neg hp] at e1
    rw [zb_f hp] at f1
    refine ⟨-1, μ, μ, ?_, ?_, zsc_r⟩
    · unfold fX10_whose
      rw [gq_5_4 hG, vq_34 e1, if_neg (fun q => q rfl)]
    · rw [eX11_whose, vq_129 f1, if_neg (fun q => q rfl)]
  rw [if_pos hp] at e1
  have hz : zbP p = 53 + 6 * p := rfl
  have hne : zbP p ≠ -1 := by omega
  by_cases c : μ 21 3 = 0
  · have f1 := s11_isPaper hP p
    rw [zb_t hp] at f1
    refine ⟨-5, μ, μ, ?_, ?_, zsc_r⟩
    · unfold fX10_whose
      rw [gq_5_4 hG, vq_34 e1, if_pos hne, gq_5_3 hG, vq_21 (s3_isEmpty_t c), if_neg (by decide)]
    · rw [eX11_whose, vq_129 f1, if_pos (by decide), gf_129, show ((9 : Nat) : Int) = 9 from rfl, w9, c, if_neg (fun q => q rfl)]
  obtain ⟨W, hWn⟩ : ∃ W : Nat, μ 21 3 = W := ⟨(μ 21 3).toNat, by omega⟩
  obtain ⟨N, hN⟩ : ∃ N : Nat, μ 6 1 = N := ⟨(μ 6 1).toNat, by omega⟩
  obtain ⟨H, hH⟩ := zheeds hG hS hW
  obtain ⟨f, hf⟩ : ∃ f : Nat → Int, ∀ n : Nat, f n = zcc H (zpo μ p) n N := ⟨_, fun _ => rfl⟩
  obtain ⟨u1, p1, p2⟩ := s3_likeliest (c := zbP p) (f := f) hWn (by omega) (fun n hn u hu => by
    rw [hf]
    exact s3_chance hG hS hP hH hu (by omega) (by omega) hp.1 hp.2 hN) (zsc_r (μ := μ))
  obtain ⟨u2, q1, q2⟩ := s11_whose (c := p) (f := f) hWn w9 (by omega) (fun n hn u hu => by
    rw [hf]
    exact s11_like hG hS hP hH hu (by omega) (by omega) hp.1 hp.2 hN) p1
  refine ⟨(zbk f W).1, u1, u2, ?_, ?_, q1⟩
  · unfold fX10_whose
    rw [gq_5_4 hG, vq_34 e1, if_pos hne, gq_5_3 hG, vq_21 (s3_isEmpty_f c), if_pos rfl, gq_5_3 hG, vq_21 p2]
  · have f1 := s11_isPaper (zsc_GP p1 hP) p
    have e34 : u1 34 3 = μ 34 3 := p1 _ _ (by omega) (by omega) (by omega) (by omega) (by omega)
    have e9 : u1 129 9 = μ 21 3 := (p1 _ _ (by omega) (by omega) (by omega) (by omega) (by omega)).trans w9
    rw [e34, zb_t hp] at f1
    rw [eX11_whose, vq_129 f1, if_pos (by decide), gf_129, show ((9 : Nat) : Int) = 9 from rfl, e9, if_pos c]
    exact q2
