/-! ===== heed on both sides ===== -/
set_option maxHeartbeats 400000 in
theorem s7_work {μ : zMem} (hG : zG0 μ) (hS : zGS μ) {w s : Int} (w0 : 0 ≤ w) (w1 : w < 4) (h0 : 0 ≤ s) (h1 : s < μ 6 1) {Ls : List zLn} (hC : zcv μ w (zfl Ls)) (hok : ∀ l ∈ Ls, zlnok l) {r : Int} (hw : zLw (znv μ w s) 0 Ls r) : ∃ u, fX7_work 23 (zbL w) s μ = some (r, u) ∧ zsc μ u := by
  obtain ⟨u1, p1, p2, p3⟩ := s7_name hG hS w0 w1 h0 h1
  have hz : zbL w = 26 + 2 * w := rfl
  have hG2 : zG0 (zupd u1 23 3 0) := zsc_G0 (zsc_3 p2) hG
  have k : ∀ a j : Int, 26 ≤ a → a < 60 → (zupd u1 23 3 0) a j = μ a j := fun a j x y => zsc_3 p2 a j (by omega) (by omega) (by omega) (by omega) (by omega)
  have hC2 : zcv (zupd u1 23 3 0) w (zfl Ls) := ⟨(k _ _ (by omega) (by omega)).trans hC.1, hC.2.1, fun j c hj => (k _ _ (by omega) (by omega)).trans (hC.2.2 j c hj)⟩
  have hn : zn8 (znv μ w s) ((zupd u1 23 3 0) 24) := fun i i0 i1 => ((zu_a (by decide)).trans (p3 i i0 i1)).symm
  obtain ⟨u2, q1, q2⟩ := s7_loop w0 w1 hG2 hC2 rfl ⟨zu_eq, by decide, trivial⟩ hok (zLw_c hn hw)
  refine ⟨u2, ?_, zsc_t (zsc_3 p2) (zsc_W q1)⟩
  rw [eX7_work, vq_23 p1, pf_23]
  exact q2
def zhc (r : Int) : Int := if r ≥ 0 then (if r ≤ 100 then r else 100) else 0
set_option maxHeartbeats 400000 in
theorem zhc_in (r : Int) : 0 ≤ zhc r ∧ zhc r ≤ 100 := by
  unfold zhc
  split
  · split <;> omega
  · omega
set_option maxHeartbeats 400000 in
theorem zhc_mx (r : Int) : zmx 0 (zmi 100 r) = zhc r := by
  unfold zmx zmi zhc
  by_cases c1 : r ≥ 0
  · by_cases c2 : r ≤ 100
    · rw [if_pos c1, if_pos c2]
      by_cases c3 : 100 < r
      · omega
      · by_cases c4 : r = 100
        · subst c4
          rfl
        · split <;> split <;> omega
    · rw [if_pos c1, if_neg c2]
      split <;> split <;> omega
  · rw [if_neg c1]
    split <;> split <;> omega
set_option maxHeartbeats 400000 in
theorem s3_heedOf {μ : zMem} (hG : zG0 μ) (hS : zGS μ) {w s : Int} (w0 : 0 ≤ w) (w1 : w < 4) (wW : w < μ 21 3) (h0 : 0 ≤ s) (h1 : s < μ 6 1) {Ls : List zLn} (hC : zcv μ w (zfl Ls)) (hok : ∀ l ∈ Ls, zlnok l) {r : Int} (hw : zLw (znv μ w s) 0 Ls r) : ∃ u, fX3_heedOf 21 w s μ = some (zhc r, u) ∧ zsc μ u := by
  obtain ⟨u, p1, p2⟩ := s7_work hG hS w0 w1 h0 h1 hC hok hw
  refine ⟨u, ?_, p2⟩
  unfold fX3_heedOf
  have hh : fX3_has 21 w μ = some (1, μ) := by rw [s3_has, zb_t ⟨w0, wW⟩]
  rw [vq_21 hh, if_pos (by decide), gq_21_1 hG, gq_21_2 hG, aq_22 hG w0 w1, vq_23 p1, zhc_mx]
/-! ### the reference -/
set_option maxHeartbeats 400000 in
theorem z130 {μ u : zMem} (hS : zGS μ) (h : zsc μ u) {k i : Int} (k0 : 0 ≤ k) (k1 : k < 4) (i0 : 0 ≤ i) (i1 : i < 16) : u 130 (16 * k + i) = μ (8 + k) i := (h _ _ (by omega) (by omega) (by omega) (by omega) (by omega)).trans (hS.2.2.2.1 k i k0 k1 i0 i1)
set_option maxHeartbeats 400000 in
theorem s11_hst {μ : zMem} (hG : zG0 μ) (hS : zGS μ) {s : Int} (h0 : 0 ≤ s) (h1 : s < 16) (n : Nat) (hn : n < 16) (K : Int → zMem → zRs) (z : Int) (z0 : 0 ≤ z) (z1 : z ≤ n) : zgf 11 0 129 μ (fun v42 => zald 20 v42 (zw32 (32 + (n : Int))) μ (fun v43 => zgf 11 0 129 μ (fun v44 => zald 20 v44 (zw32 (32 + s)) μ (fun v45 => zjn (fun (v46 : Int) (u47 : zMem) => K (zw32 (z + v46)) u47) (fun k48 => if v43 ≠ v45 then (k48 0 μ) else (k48 1 μ)))))) = K (z + zon μ s n) μ := by
  have en : μ 130 (32 + (n : Int)) = μ 10 n := z130 hS zsc_r (k := 2) (by decide) (by decide) (by omega) (by omega)
  have es : μ 130 (32 + s) = μ 10 s := z130 hS zsc_r (k := 2) (by decide) (by decide) h0 h1
  rw [gq_129_0 hG, zw32_id (x := 32 + (n : Int)) (by omega) (by omega), al_130 (by omega) (by omega), gq_129_0 hG, zw32_id (x := 32 + s) (by omega) (by omega), al_130 (by omega) (by omega), zjn_ok, en, es]
  by_cases c : μ 10 n = μ 10 s
  · rw [if_neg (fun q => q c), zon_t c]
    show K (zw32 (z + 1)) μ = _
    rw [zw32_id (x := z + 1) (by omega) (by omega)]
  · rw [if_pos c, zon_f c]
    show K (zw32 (z + 0)) μ = _
    rw [zw32_id (x := z + 0) (by omega) (by omega)]
set_option maxHeartbeats 400000 in
theorem s11_heedOf {μ : zMem} (hG : zG0 μ) (hS : zGS μ) {w s : Int} (w0 : 0 ≤ w) (w1 : w < 4) (h0 : 0 ≤ s) (h1 : s < μ 6 1) {T : Nat → Int} {n : Nat} {Ls : List zLn} (hn : n ≤ 120) (hT : ∀ k : Nat, k < n → 0 ≤ T k ∧ μ 137 (120 * w + k) = T k) (h138 : μ 138 w = n) (hL : ztx (zgn T n) n = .inr Ls) (h135 : μ 135 w = μ (zbL w) 2) : ∃ r u, fX11_heedOf 129 w s μ = some (zhc r, u) ∧ zsc μ u ∧ zLw (znv μ w s) 0 Ls r := by
  have h16 := hS.2.1
  have e0 : ∀ {u : zMem}, zsc μ u → u 130 s = μ 8 s := fun h => by
    have := z130 hS h (k := 0) (by decide) (by decide) h0 (by omega)
    rw [show (16 : Int) * 0 + s = s by omega] at this
    exact this
  have e1 : ∀ {u : zMem}, zsc μ u → u 130 (16 + s) = μ 9 s := fun h => z130 hS h (k := 1) (by decide) (by decide) h0 (by omega)
  have e2 : ∀ {u : zMem}, zsc μ u → u 130 (32 + s) = μ 10 s := fun h => z130 hS h (k := 2) (by decide) (by decide) h0 (by omega)
  have e3 : ∀ {u : zMem}, zsc μ u → u 130 (48 + s) = μ 11 s := fun h => z130 hS h (k := 3) (by decide) (by decide) h0 (by omega)
  obtain ⟨u1, g1⟩ : ∃ u, u = zupd μ 139 0 (μ 8 s) := ⟨_, rfl⟩
  have n1 : zsc μ u1 := by rw [g1]; exact zsc_139 zsc_r
  obtain ⟨u2, g2⟩ : ∃ u, u = zupd u1 139 1 (μ 9 s) := ⟨_, rfl⟩
  have n2 : zsc μ u2 := by rw [g2]; exact zsc_139 n1
  obtain ⟨u3, g3⟩ : ∃ u, u = zupd u2 139 2 (μ 10 s) := ⟨_, rfl⟩
  have n3 : zsc μ u3 := by rw [g3]; exact zsc_139 n2
  obtain ⟨u4, g4⟩ : ∃ u, u = zupd u3 139 3 (μ 11 s) := ⟨_, rfl⟩
  have n4 : zsc μ u4 := by rw [g4]; exact zsc_139 n3
  obtain ⟨u5, g5⟩ : ∃ u, u = zupd u4 139 4 s := ⟨_, rfl⟩
  have n5 : zsc μ u5 := by rw [g5]; exact zsc_139 n4
  obtain ⟨u6, g6⟩ : ∃ u, u = zupd u5 139 5 (zsm (μ 11) s.toNat) := ⟨_, rfl⟩
  have n6 : zsc μ u6 := by rw [g6]; exact zsc_139 n5
  obtain ⟨u7, g7⟩ : ∃ u, u = zupd u6 139 6 (znv μ w s 6) := ⟨_, rfl⟩
  have n7 : zsc μ u7 := by rw [g7]; exact zsc_139 n6
  obtain ⟨u8, g8⟩ : ∃ u, u = zupd u7 139 7 (zsm (zon μ s) s.toNat) := ⟨_, rfl⟩
  have n8 : zsc μ u8 := by rw [g8]; exact zsc_139 n7
  have hn8 : zn8 (u8 139) (znv μ w s) := fun k k0 k1 => by
    have hk : k = 0 ∨ k = 1 ∨ k = 2 ∨ k = 3 ∨ k = 4 ∨ k = 5 ∨ k = 6 ∨ k = 7 := by omega
    rcases hk with rfl | rfl | rfl | rfl | rfl | rfl | rfl | rfl
    · rw [g8, zu_j (by decide), g7, zu_j (by decide), g6, zu_j (by decide), g5, zu_j (by decide), g4, zu_j (by decide), g3, zu_j (by decide), g2, zu_j (by decide), g1, zu_eq]; rfl
    · rw [g8, zu_j (by decide), g7, zu_j (by decide), g6, zu_j (by decide), g5, zu_j (by decide), g4, zu_j (by decide), g3, zu_j (by decide), g2, zu_eq]; rfl
    · rw [g8, zu_j (by decide), g7, zu_j (by decide), g6, zu_j (by decide), g5, zu_j (by decide), g4, zu_j (by decide), g3, zu_eq]; rfl
    · rw [g8, zu_j (by decide), g7, zu_j (by decide), g6, zu_j (by decide), g5, zu_j (by decide), g4, zu_eq]; rfl
    · rw [g8, zu_j (by decide), g7, zu_j (by decide), g6, zu_j (by decide), g5, zu_eq]; rfl
    · rw [g8, zu_j (by decide), g7, zu_j (by decide), g6, zu_eq]; rfl
    · rw [g8, zu_j (by decide), g7, zu_eq]
    · rw [g8, zu_eq]; rfl
  have a1 := zsc_G0 n1 hG
  have a2 := zsc_G0 n2 hG
  have a3 := zsc_G0 n3 hG
  have a4 := zsc_G0 n4 hG
  have a5 := zsc_G0 n5 hG
  have a6 := zsc_G0 n6 hG
  have a7 := zsc_G0 n7 hG
  have a8 := zsc_G0 n8 hG
  have c5 : u5 6 1 = μ 6 1 := n5 _ _ (by omega) (by omega) (by omega) (by omega) (by omega)
  have d5 : u5 11 = μ 11 := funext (fun j => n5 _ _ (by omega) (by omega) (by omega) (by omega) (by omega))
  have q5 : fX11_minuteOf 129 s u5 = some (zsm (μ 11) s.toNat, u5) := by
    rw [s11_minuteOf a5 (zsc_GS n5 hS) h0 (by omega), d5]
  have r135 : u6 135 w = μ (zbL w) 2 := (n6 _ _ (by omega) (by omega) (by omega) (by omega) (by omega)).trans h135
  have r138 : u8 138 w = n := (n8 _ _ (by omega) (by omega) (by omega) (by omega) (by omega)).trans h138
  obtain ⟨r, u9, s1, s2, -, s3⟩ := r_workOut (μ := u8) a8 hn (fun i hi => (hT i hi).1) (120 * w) (Or.inr ⟨w, w0, w1, rfl, fun i hi => (n8 _ _ (by omega) (by omega) (by omega) (by omega) (by omega)).trans (hT i hi).2⟩)
  obtain ⟨-, s4⟩ := s3 Ls hL
  refine ⟨r, u9, ?_, zsc_t n8 (zsc_U s2), zLw_c hn8 s4⟩
  have hb := zsm_b (f := zon μ s) zon_b
  rw [eX11_heedOf]
  unfold lX11_heedOf_1
  refine zlA (fun n => zsm (zon μ s) n) rfl s.toNat (by omega) (fun k n hn => ?_) (fun k => ?_)
  · have c1 : ¬ (n : Int) ≥ s := by omega
    have hs := hb n
    have hk := s11_hst hG hS h0 (by omega) n (by omega) (fun z u => k z ((n + 1 : Nat) : Int) u) (zsm (zon μ s) n) hs.1 hs.2
    have hp := zupn (n := n) (by omega)
    clear hb
    show (if ((n : Nat) : Int) ≥ s then _ else _) = _
    rw [if_neg c1, hp]
    exact hk
  · have c1 : ((s.toNat : Nat) : Int) ≥ s := by omega
    show (if ((s.toNat : Nat) : Int) ≥ s then _ else _) = _
    rw [if_pos c1]
    rw [gq_129_19 hG, gq_129_0 hG, al_130 (by omega) (by omega), e0 zsc_r, as_139 (by decide) (by decide), ← g1]
    rw [gq_129_19 a1, gq_129_0 a1, zw32_id (x := 16 + s) (by omega) (by omega), al_130 (by omega) (by omega), e1 n1, as_139 (by decide) (by decide), ← g2]
    rw [gq_129_19 a2, gq_129_0 a2, zw32_id (x := 32 + s) (by omega) (by omega), al_130 (by omega) (by omega), e2 n2, as_139 (by decide) (by decide), ← g3]
    rw [gq_129_19 a3, gq_129_0 a3, zw32_id (x := 48 + s) (by omega) (by omega), al_130 (by omega) (by omega), e3 n3, as_139 (by decide) (by decide), ← g4]
    rw [gq_129_19 a4, as_139 (by decide) (by decide), ← g5]
    rw [gq_129_19 a5, vq_129 q5, as_139 (by decide) (by decide), ← g6]
    rw [gq_129_19 a6, gq_129_0 a6, al_130 (by omega) (by omega), e0 n6, gq_129_10 a6, al_135 w0 w1, r135, zjn_ok]
    have go : ∀ v : Int, v = znv μ w s 6 → zast 20 139 6 v u6 (fun u35 => zgf 11 19 129 u35 (fun v36 => zast 20 v36 7 (zsm (zon μ s) s.toNat) u35 (fun u37 => zgf 11 13 129 u37 (fun v38 => zald 20 v38 w u37 (fun v39 => zvc 11 129 (fX11_workOut 129 (zw32 (120 * w)) v39 u37) (fun v40 u41 => if v40 ≥ 0 then (if v40 ≤ 100 then (some (v40, u41)) else (some (100, u41))) else (some (0, u41)))))))) = some (zhc r, u9) := fun v hv => by
      rw [hv, as_139 (by decide) (by decide), ← g7, gq_129_19 a7, as_139 (by decide) (by decide), ← g8, gq_129_13 a8, al_138 w0 w1, r138, zw32_id (x := 120 * w) (by omega) (by omega), vq_129 s1]
      unfold zhc
      by_cases c1 : r ≥ 0
      · by_cases c2 : r ≤ 100
        · rw [if_pos c1, if_pos c2, if_pos c1, if_pos c2]
        · rw [if_pos c1, if_neg c2, if_pos c1, if_neg c2]
      · rw [if_neg c1, if_neg c1]
    by_cases c : μ 8 s = μ (zbL w) 2
    · rw [if_neg (fun q => q c)]
      exact go 1 (by rw [znv_6, if_pos c])
    · rw [if_pos c]
      exact go 0 (by rw [znv_6, if_neg c])
/- how much a writer heeds a saying: one number, on both sides, with scratch used up only -/
set_option maxHeartbeats 400000 in
theorem zheed {μ : zMem} (hG : zG0 μ) (hS : zGS μ) (hW : zGW μ) {w s : Int} (w0 : 0 ≤ w) (wW : w < μ 21 3) (h0 : 0 ≤ s) (h1 : s < μ 6 1) : ∃ h : Int, (0 ≤ h ∧ h ≤ 100) ∧ (∀ u, zsc μ u → ∃ u', fX3_heedOf 21 w s u = some (h, u') ∧ zsc μ u') ∧ (∀ u, zsc μ u → ∃ u', fX11_heedOf 129 w s u = some (h, u') ∧ zsc μ u') := by
  have w1 : w < 4 := by
    have := hW.1
    omega
  have hz : zbL w = 26 + 2 * w := rfl
  obtain ⟨T, n, Ls, x1, x2, x3, x4, x5, x6, x7, x8, -⟩ := hW.2 w w0 wW
  have hok := ztx_ok x4
  obtain ⟨r, u0, -, -, y3⟩ := s11_heedOf hG hS w0 w1 h0 h1 x1 x2 x3 x4 x8
  refine ⟨zhc r, zhc_in r, fun u hu => ?_, fun u hu => ?_⟩
  · have hW2 := (hu 21 3 (by omega) (by omega) (by omega) (by omega) (by omega)).symm
    have h62 := (hu 6 1 (by omega) (by omega) (by omega) (by omega) (by omega)).symm
    have hC : zcv u w (zfl Ls) := ⟨(hu _ _ (by omega) (by omega) (by omega) (by omega) (by omega)).trans x5, x6, fun k c hk => (hu _ _ (by omega) (by omega) (by omega) (by omega) (by omega)).trans (x7 k c hk)⟩
    obtain ⟨u', p1, p2⟩ := s3_heedOf (zsc_G0 hu hG) (zsc_GS hu hS) w0 w1 (by omega) h0 (by omega) hC hok (r := r) (zLw_c (fun k _ _ => (znv_c hu w0).symm) y3)
    exact ⟨u', p1, zsc_t hu p2⟩
  · have h62 := (hu 6 1 (by omega) (by omega) (by omega) (by omega) (by omega)).symm
    have e8 : u 135 w = u (zbL w) 2 := by
      rw [hu _ _ (by omega) (by omega) (by omega) (by omega) (by omega), hu _ _ (by omega) (by omega) (by omega) (by omega) (by omega)]
      exact x8
    obtain ⟨r', u', p1, p2, p3⟩ := s11_heedOf (zsc_G0 hu hG) (zsc_GS hu hS) w0 w1 h0 (by omega) x1 (fun k hk => ⟨(x2 k hk).1, (hu _ _ (by omega) (by omega) (by omega) (by omega) (by omega)).trans (x2 k hk).2⟩) ((hu _ _ (by omega) (by omega) (by omega) (by omega) (by omega)).trans x3) x4 e8
    have hr : r' = r := zLw_f p3 (zLw_c (fun k _ _ => (znv_c hu w0).symm) y3)
    rw [hr] at p1
    exact ⟨u', p1, zsc_t hu p2⟩
