/-! ===== heed: the class names what a saying is ===== -/
def zon (μ : zMem) (s j : Int) : Int := if μ 10 j = μ 10 s then 1 else 0
set_option maxHeartbeats 400000 in
theorem zon_t {μ : zMem} {s j : Int} (h : μ 10 j = μ 10 s) : zon μ s j = 1 := if_pos h
set_option maxHeartbeats 400000 in
theorem zon_f {μ : zMem} {s j : Int} (h : ¬ μ 10 j = μ 10 s) : zon μ s j = 0 := if_neg h
set_option maxHeartbeats 400000 in
theorem zon_b {μ : zMem} {s : Int} (j : Int) : zon μ s j = 0 ∨ zon μ s j = 1 := by
  by_cases h : μ 10 j = μ 10 s
  · exact Or.inr (zon_t h)
  · exact Or.inl (zon_f h)
set_option maxHeartbeats 400000 in
theorem s5_ahead {μ : zMem} (hG : zG0 μ) (hN : μ 6 1 ≤ 16) {s : Int} (h0 : 0 ≤ s) (h1 : s < μ 6 1) : fX5_aheadOnSame 6 s μ = some (zsm (zon μ s) s.toNat, μ) := by
  have hb := zsm_b (f := zon μ s) zon_b
  rw [eX5_aheadOnSame]
  unfold lX5_aheadOnSame_1
  refine zlA (fun n => zsm (zon μ s) n) rfl s.toNat (by omega) (fun k n hn => ?_) (fun k => ?_)
  · have c1 : ¬ (n : Int) ≥ s := by omega
    have c2 : ¬ s ≥ μ 6 1 := by omega
    have hs := hb n
    have hw : zw32 (zsm (zon μ s) n + 1) = zsm (zon μ s) n + 1 := zw32_id (by omega) (by omega)
    show (if ((n : Nat) : Int) ≥ s then _ else _) = _
    rw [if_neg c1, gf_6, show ((1 : Nat) : Int) = 1 from rfl, if_neg c2, gq_6_0 hG, aq_7 hG (by decide) (by decide), show (8 : Int) + 2 = 10 from rfl, al_10 (by omega) (by omega), gq_6_0 hG, aq_7 hG (by decide) (by decide), show (8 : Int) + 2 = 10 from rfl, al_10 h0 (by omega), zjn_ok, zupn (by omega)]
    by_cases c : μ 10 n = μ 10 s
    · rw [if_neg (fun q => q c), hw]
      show k (zsm (zon μ s) n + 1) _ μ = k (zsm (zon μ s) n + zon μ s n) _ μ
      rw [zon_t c]
    · rw [if_pos c]
      show k (zsm (zon μ s) n) _ μ = k (zsm (zon μ s) n + zon μ s n) _ μ
      rw [zon_f c, Int.add_zero]
  · have c1 : ((s.toNat : Nat) : Int) ≥ s := by omega
    show (if ((s.toNat : Nat) : Int) ≥ s then _ else _) = _
    rw [if_pos c1]
/-- the eight names of a saying for a writer -/
def znv (μ : zMem) (w s k : Int) : Int := if k = 0 then μ 8 s else if k = 1 then μ 9 s else if k = 2 then μ 10 s else if k = 3 then μ 11 s else if k = 4 then s else if k = 5 then zsm (μ 11) s.toNat else if k = 6 then (if μ 8 s = μ (zbL w) 2 then 1 else 0) else zsm (zon μ s) s.toNat
set_option maxHeartbeats 400000 in
theorem znv_6 {μ : zMem} {w s : Int} : znv μ w s 6 = if μ 8 s = μ (zbL w) 2 then 1 else 0 := rfl
set_option maxHeartbeats 400000 in
theorem znv_c {μ u : zMem} (h : zsc μ u) {w s k : Int} (w0 : 0 ≤ w) : znv u w s k = znv μ w s k := by
  have hz : zbL w = 26 + 2 * w := rfl
  have e8 : ∀ j, u 8 j = μ 8 j := fun j => h _ _ (by omega) (by omega) (by omega) (by omega) (by omega)
  have e9 : ∀ j, u 9 j = μ 9 j := fun j => h _ _ (by omega) (by omega) (by omega) (by omega) (by omega)
  have e10 : ∀ j, u 10 j = μ 10 j := fun j => h _ _ (by omega) (by omega) (by omega) (by omega) (by omega)
  have e11 : u 11 = μ 11 := funext (fun j => h _ _ (by omega) (by omega) (by omega) (by omega) (by omega))
  unfold znv
  have eo : zon u s = zon μ s := funext (fun j => by unfold zon; rw [e10, e10])
  by_cases hw : zbL w = 139
  · unfold zbL at hw
    omega
  have e2 : u (zbL w) 2 = μ (zbL w) 2 := h _ _ (by omega) (by omega) (by omega) (by omega) hw
  rw [e8, e9, e10, e11, e2, eo]
set_option maxHeartbeats 400000 in
theorem zpt {μ u : zMem} (hG : zG0 μ) (hS : zGS μ) (h : zsc μ u) {s k : Int} (h0 : 0 ≤ s) (h1 : s < μ 6 1) (k0 : 0 ≤ k) (k1 : k < 4) : fX5_part 6 s k u = some (μ (8 + k) s, u) := by
  have hS' := zsc_GS h hS
  have e6 : u 6 1 = μ 6 1 := h _ _ (by omega) (by omega) (by omega) (by omega) (by omega)
  rw [s5_part (zsc_G0 h hG) hS'.2.1, if_pos ⟨h0, by omega, k0, k1⟩, h _ _ (by omega) (by omega) (by omega) (by omega) (by omega)]
set_option maxHeartbeats 400000 in
theorem s7_name {μ : zMem} (hG : zG0 μ) (hS : zGS μ) {w s : Int} (w0 : 0 ≤ w) (w1 : w < 4) (h0 : 0 ≤ s) (h1 : s < μ 6 1) : ∃ u, fX7_name 23 (zbL w) s μ = some (0, u) ∧ zsc μ u ∧ zn8 (u 24) (znv μ w s) := by
  obtain ⟨u1, e1⟩ : ∃ u, u = zupd μ 24 0 (μ 8 s) := ⟨_, rfl⟩
  have n1 : zsc μ u1 := by rw [e1]; exact zsc_24 zsc_r
  obtain ⟨u2, e2⟩ : ∃ u, u = zupd u1 24 1 (μ 9 s) := ⟨_, rfl⟩
  have n2 : zsc μ u2 := by rw [e2]; exact zsc_24 n1
  obtain ⟨u3, e3⟩ : ∃ u, u = zupd u2 24 2 (μ 10 s) := ⟨_, rfl⟩
  have n3 : zsc μ u3 := by rw [e3]; exact zsc_24 n2
  obtain ⟨u4, e4⟩ : ∃ u, u = zupd u3 24 3 (μ 11 s) := ⟨_, rfl⟩
  have n4 : zsc μ u4 := by rw [e4]; exact zsc_24 n3
  obtain ⟨u5, e5⟩ : ∃ u, u = zupd u4 24 4 s := ⟨_, rfl⟩
  have n5 : zsc μ u5 := by rw [e5]; exact zsc_24 n4
  obtain ⟨u6, e6⟩ : ∃ u, u = zupd u5 24 5 (zsm (μ 11) s.toNat) := ⟨_, rfl⟩
  have n6 : zsc μ u6 := by rw [e6]; exact zsc_24 n5
  obtain ⟨u7, e7⟩ : ∃ u, u = zupd u6 24 6 (znv μ w s 6) := ⟨_, rfl⟩
  have n7 : zsc μ u7 := by rw [e7]; exact zsc_24 n6
  obtain ⟨u8, e8⟩ : ∃ u, u = zupd u7 24 7 (zsm (zon μ s) s.toNat) := ⟨_, rfl⟩
  have n8 : zsc μ u8 := by rw [e8]; exact zsc_24 n7
  have g1 := zsc_G0 n1 hG
  have g2 := zsc_G0 n2 hG
  have g3 := zsc_G0 n3 hG
  have g4 := zsc_G0 n4 hG
  have g5 := zsc_G0 n5 hG
  have g6 := zsc_G0 n6 hG
  have g7 := zsc_G0 n7 hG
  have p0 : fX5_part 6 s 0 μ = some (μ 8 s, μ) := zpt hG hS zsc_r h0 h1 (by decide) (by decide)
  have p1 : fX5_part 6 s 1 u1 = some (μ 9 s, u1) := zpt hG hS n1 h0 h1 (by decide) (by decide)
  have p2 : fX5_part 6 s 2 u2 = some (μ 10 s, u2) := zpt hG hS n2 h0 h1 (by decide) (by decide)
  have p3 : fX5_part 6 s 3 u3 = some (μ 11 s, u3) := zpt hG hS n3 h0 h1 (by decide) (by decide)
  have c5 : u5 6 1 = μ 6 1 := n5 _ _ (by omega) (by omega) (by omega) (by omega) (by omega)
  have c7 : u7 6 1 = μ 6 1 := n7 _ _ (by omega) (by omega) (by omega) (by omega) (by omega)
  have d5 : u5 11 = μ 11 := funext (fun j => n5 _ _ (by omega) (by omega) (by omega) (by omega) (by omega))
  have d7 : zon u7 s = zon μ s := funext (fun j => by
    have e10 : ∀ j, u7 10 j = μ 10 j := fun j => n7 _ _ (by omega) (by omega) (by omega) (by omega) (by omega)
    unfold zon
    rw [e10, e10])
  have q5 : fX5_minute 6 s u5 = some (zsm (μ 11) s.toNat, u5) := by
    rw [s5_minute g5 (zsc_GS n5 hS) h0 (by omega), d5]
  have q7 : fX5_aheadOnSame 6 s u7 = some (zsm (zon μ s) s.toNat, u7) := by
    rw [s5_ahead g7 (zsc_GS n7 hS).2.1 h0 (by omega), d7]
  have r0 : u6 24 0 = μ 8 s := by rw [e6, zu_j (by decide), e5, zu_j (by decide), e4, zu_j (by decide), e3, zu_j (by decide), e2, zu_j (by decide), e1, zu_eq]
  have hz : zbL w = 26 + 2 * w := rfl
  have r2 : u6 (zbL w) 2 = μ (zbL w) 2 := n6 _ _ (by omega) (by omega) (by omega) (by omega) (by omega)
  have q6 : ∀ K : zMem → zRs, zvc 4 (zbL w) (fX4_isSelf (zbL w) (μ 8 s) u6) (fun v31 u32 => zjn (fun (v33 : Int) (u34 : zMem) => zast 20 24 6 v33 u34 K) (fun k35 => if v31 = 0 then (k35 0 u32) else (k35 1 u32))) = K u7 := fun K => by
    have : fX4_isSelf (zbL w) (μ 8 s) u6 = some (znv μ w s 6, u6) := by
      unfold fX4_isSelf
      rw [gfL w0 w1, show ((2 : Nat) : Int) = 2 from rfl, r2, znv_6]
      by_cases c : μ 8 s = μ (zbL w) 2
      · rw [if_neg (fun q => q c), if_pos c, zbl_1]
      · rw [if_pos c, if_neg c, zbl_0]
    rw [vcL_of w0 w1 this, zjn_ok, e7]
    have h6 : znv μ w s 6 = 0 ∨ znv μ w s 6 = 1 := by
      rw [znv_6]
      split
      · exact Or.inr rfl
      · exact Or.inl rfl
    rcases h6 with h6 | h6 <;> rw [h6]
    · rw [if_pos rfl]
      exact as_24 (by decide) (by decide)
    · rw [if_neg (by decide)]
      exact as_24 (by decide) (by decide)
  refine ⟨u8, ?_, n8, ?_⟩
  · unfold fX7_name
    rw [gq_23_1 hG, gq_23_0 hG, vq_6 p0, as_24 (by decide) (by decide), ← e1]
    rw [gq_23_1 g1, gq_23_0 g1, vq_6 p1, as_24 (by decide) (by decide), ← e2]
    rw [gq_23_1 g2, gq_23_0 g2, vq_6 p2, as_24 (by decide) (by decide), ← e3]
    rw [gq_23_1 g3, gq_23_0 g3, vq_6 p3, as_24 (by decide) (by decide), ← e4]
    rw [gq_23_1 g4, as_24 (by decide) (by decide), ← e5]
    rw [gq_23_1 g5, gq_23_0 g5, vq_6 q5, as_24 (by decide) (by decide), ← e6]
    rw [gq_23_1 g6, gq_23_1 g6, al_24 (by decide) (by decide), r0]
    refine (q6 _).trans ?_
    rw [gq_23_1 g7, gq_23_0 g7, vq_6 q7, as_24 (by decide) (by decide), ← e8]
  · intro k k0 k1
    have hk : k = 0 ∨ k = 1 ∨ k = 2 ∨ k = 3 ∨ k = 4 ∨ k = 5 ∨ k = 6 ∨ k = 7 := by omega
    rcases hk with rfl | rfl | rfl | rfl | rfl | rfl | rfl | rfl
    · rw [e8, zu_j (by decide), e7, zu_j (by decide), r0]; rfl
    · rw [e8, zu_j (by decide), e7, zu_j (by decide), e6, zu_j (by decide), e5, zu_j (by decide), e4, zu_j (by decide), e3, zu_j (by decide), e2, zu_eq]; rfl
    · rw [e8, zu_j (by decide), e7, zu_j (by decide), e6, zu_j (by decide), e5, zu_j (by decide), e4, zu_j (by decide), e3, zu_eq]; rfl
    · rw [e8, zu_j (by decide), e7, zu_j (by decide), e6, zu_j (by decide), e5, zu_j (by decide), e4, zu_eq]; rfl
    · rw [e8, zu_j (by decide), e7, zu_j (by decide), e6, zu_j (by decide), e5, zu_eq]; rfl
    · rw [e8, zu_j (by decide), e7, zu_j (by decide), e6, zu_eq]; rfl
    · rw [e8, zu_j (by decide), e7, zu_eq]
    · rw [e8, zu_eq]; rfl
