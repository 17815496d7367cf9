/-! ===== years ===== -/
def zhd (μ : zMem) (H : Int → Int → Int) : Prop := (∀ w s, 0 ≤ H w s ∧ H w s ≤ 100) ∧ ∀ w s : Int, 0 ≤ w → w < μ 21 3 → 0 ≤ s → s < μ 6 1 → (∀ u, zsc μ u → ∃ u', fX3_heedOf 21 w s u = some (H w s, u') ∧ zsc μ u') ∧ (∀ u, zsc μ u → ∃ u', fX11_heedOf 129 w s u = some (H w s, u') ∧ zsc μ u')
set_option maxHeartbeats 400000 in
theorem zheeds {μ : zMem} (hG : zG0 μ) (hS : zGS μ) (hW : zGW μ) : ∃ H, zhd μ H := by
  have key : ∀ w s : Int, ∃ h : Int, (0 ≤ h ∧ h ≤ 100) ∧ (0 ≤ w → w < μ 21 3 → 0 ≤ s → s < μ 6 1 → (∀ u, zsc μ u → ∃ u', fX3_heedOf 21 w s u = some (h, u') ∧ zsc μ u') ∧ (∀ u, zsc μ u → ∃ u', fX11_heedOf 129 w s u = some (h, u') ∧ zsc μ u')) := fun w s => by
    by_cases c : 0 ≤ w ∧ w < μ 21 3 ∧ 0 ≤ s ∧ s < μ 6 1
    · obtain ⟨h, a, b⟩ := zheed hG hS hW c.1 c.2.1 c.2.2.1 c.2.2.2
      exact ⟨h, a, fun _ _ _ _ => b⟩
    · exact ⟨0, by decide, fun a b d e => absurd ⟨a, b, d, e⟩ c⟩
  exact ⟨fun w s => Classical.choose (key w s), fun w s => (Classical.choose_spec (key w s)).1, fun w s => (Classical.choose_spec (key w s)).2⟩
def zyf (H : Int → Int → Int) (w x s : Int) : Int := Int.tdiv (H w s * (100 - x)) 100
set_option maxHeartbeats 400000 in
theorem zyr {h x : Int} (h0 : 0 ≤ h) (h1 : h ≤ 100) (x0 : 0 ≤ x) (x1 : x ≤ 99) : 0 ≤ Int.tdiv (h * (100 - x)) 100 ∧ Int.tdiv (h * (100 - x)) 100 ≤ 100 ∧ zw32 (Int.tdiv (zw32 (h * zw32 (100 - x))) 100) = Int.tdiv (h * (100 - x)) 100 := by
  have a1 : 0 ≤ h * (100 - x) := Int.mul_nonneg h0 (by omega)
  have a2 : h * (100 - x) ≤ 100 * 100 := Int.mul_le_mul h1 (by omega) (by omega) (by decide)
  rw [zw32_id (x := 100 - x) (by omega) (by omega), zw32_id (x := h * (100 - x)) (by omega) (by omega)]
  rw [Int.tdiv_eq_ediv_of_nonneg a1]
  have b1 : 0 ≤ h * (100 - x) / 100 := by omega
  have b2 : h * (100 - x) / 100 ≤ 100 := by omega
  exact ⟨b1, b2, zw32_id (by omega) (by omega)⟩
set_option maxHeartbeats 400000 in
theorem zya {a y : Int} {n : Nat} (hn : n < 1000000) (a0 : 0 ≤ a) (a1 : a ≤ 100 * n) (y0 : 0 ≤ y) (y1 : y ≤ 100) : zw32 (a + y) = a + y := zw32_id (by omega) (by omega)
set_option maxHeartbeats 400000 in
theorem s10_years {μ : zMem} (hG : zG0 μ) (hS : zGS μ) {H : Int → Int → Int} (hH : zhd μ H) {w x : Int} (w0 : 0 ≤ w) (wW : w < μ 21 3) (x0 : 0 ≤ x) (x1 : x ≤ 99) : ∃ r u', lX10_years_1 5 w x 0 0 μ = some (r, u') ∧ (r = zsm (zyf H w x) (μ 6 1).toNat ∧ zsc μ u') := by
  have h16 := hS.2.1
  have hN := hS.1
  have hb : ∀ i : Int, 0 ≤ i → i < ((μ 6 1).toNat : Int) → 0 ≤ zyf H w x i ∧ zyf H w x i ≤ 100 := fun i _ _ => by
    have := zyr (hH.1 w i).1 (hH.1 w i).2 x0 x1
    exact ⟨this.1, this.2.1⟩
  have hb2 := zsm_le hb
  unfold lX10_years_1
  refine zli2 (Q := fun r u => r = zsm (zyf H w x) (μ 6 1).toNat ∧ zsc μ u) (fun n a b u => a = zsm (zyf H w x) n ∧ b = n ∧ zsc μ u) (μ 6 1).toNat (by omega) ?_ ?_ ⟨rfl, rfl, zsc_r⟩
  · intro k n a b u hn hI
    obtain ⟨rfl, rfl, hu⟩ := hI
    have e6 : u 6 1 = μ 6 1 := hu _ _ (by omega) (by omega) (by omega) (by omega) (by omega)
    have hs := hb2 n (by omega)
    have hn6 : n < 1000000 := by omega
    obtain ⟨u', p1, p2⟩ := (hH.2 w n w0 wW (by omega) (by omega)).1 u hu
    have hG1 := zsc_G0 hu hG
    have c : ¬ (n : Int) ≥ u 6 1 := by omega
    have hy := zyr (hH.1 w n).1 (hH.1 w n).2 x0 x1
    have ha := zya (n := n) hn6 hs.1 hs.2 hy.1 hy.2.1
    have hp := zupn hn6
    refine ⟨zsm (zyf H w x) (n + 1), ((n + 1 : Nat) : Int), u', ⟨rfl, rfl, p2⟩, ?_⟩
    show zgf 10 0 5 u _ = _
    rw [gq_5_0 hG1, vq_6 s5_size, if_neg c, gq_5_3 hG1, vq_21 p1, znz_ok (by decide), hy.2.2, ha, hp]
    rfl
  · intro k a b u hI
    obtain ⟨rfl, rfl, hu⟩ := hI
    have e6 : u 6 1 = μ 6 1 := hu _ _ (by omega) (by omega) (by omega) (by omega) (by omega)
    have hG1 := zsc_G0 hu hG
    have c : ((μ 6 1).toNat : Int) ≥ u 6 1 := by omega
    refine ⟨zsm (zyf H w x) (μ 6 1).toNat, u, ?_, rfl, hu⟩
    show zgf 10 0 5 u _ = _
    rw [gq_5_0 hG1, vq_6 s5_size, if_pos c]
set_option maxHeartbeats 400000 in
theorem s11_years {μ v : zMem} (hG : zG0 μ) (hS : zGS μ) {H : Int → Int → Int} (hH : zhd μ H) (hv : zsc μ v) {w x : Int} (w0 : 0 ≤ w) (wW : w < μ 21 3) (x0 : 0 ≤ x) (x1 : x ≤ 99) : ∃ r u', lX11_years_1 129 w x 0 0 v = some (r, u') ∧ (r = zsm (zyf H w x) (μ 6 1).toNat ∧ zsc μ u') := by
  have h16 := hS.2.1
  have hN := hS.1
  have hb : ∀ i : Int, 0 ≤ i → i < ((μ 6 1).toNat : Int) → 0 ≤ zyf H w x i ∧ zyf H w x i ≤ 100 := fun i _ _ => by
    have := zyr (hH.1 w i).1 (hH.1 w i).2 x0 x1
    exact ⟨this.1, this.2.1⟩
  have hb2 := zsm_le hb
  have h6 := hS.2.2.1
  unfold lX11_years_1
  refine zli2 (Q := fun r u => r = zsm (zyf H w x) (μ 6 1).toNat ∧ zsc μ u) (fun n a b u => a = zsm (zyf H w x) n ∧ b = n ∧ zsc μ u) (μ 6 1).toNat (by omega) ?_ ?_ ⟨rfl, rfl, hv⟩
  · intro k n a b u hn hI
    obtain ⟨rfl, rfl, hu⟩ := hI
    have e6 : u 129 6 = μ 6 1 := (hu _ _ (by omega) (by omega) (by omega) (by omega) (by omega)).trans h6
    have hs := hb2 n (by omega)
    have hn6 : n < 1000000 := by omega
    obtain ⟨u', p1, p2⟩ := (hH.2 w n w0 wW (by omega) (by omega)).2 u hu
    have c : ¬ (n : Int) ≥ μ 6 1 := by omega
    have hy := zyr (hH.1 w n).1 (hH.1 w n).2 x0 x1
    have ha := zya (n := n) hn6 hs.1 hs.2 hy.1 hy.2.1
    have hp := zupn hn6
    refine ⟨zsm (zyf H w x) (n + 1), ((n + 1 : Nat) : Int), u', ⟨rfl, rfl, p2⟩, ?_⟩
    show zgf 11 6 129 u _ = _
    rw [gf_129, show ((6 : Nat) : Int) = 6 from rfl, e6, if_neg c, vq_129 p1, znz_ok (by decide), hy.2.2, ha, hp]
    rfl
  · intro k a b u hI
    obtain ⟨rfl, rfl, hu⟩ := hI
    have e6 : u 129 6 = μ 6 1 := (hu _ _ (by omega) (by omega) (by omega) (by omega) (by omega)).trans h6
    have c : ((μ 6 1).toNat : Int) ≥ μ 6 1 := by omega
    refine ⟨zsm (zyf H w x) (μ 6 1).toNat, u, ?_, rfl, hu⟩
    show zgf 11 6 129 u _ = _
    rw [gf_129, show ((6 : Nat) : Int) = 6 from rfl, e6, if_pos c]
/- has, isWriter behind scratch -/
set_option maxHeartbeats 400000 in
theorem ziW {μ u : zMem} (hW : zGW μ) (h : zsc μ u) (w : Int) : fX11_isWriter 129 w u = some (zb (0 ≤ w ∧ w < μ 21 3), u) := by
  have w1 := (zsc_GW h hW).1
  have e21 : u 21 3 = μ 21 3 := h _ _ (by omega) (by omega) (by omega) (by omega) (by omega)
  rw [s11_isWriter w1.2.2 w1.1 w1.2.1 w, e21]
set_option maxHeartbeats 400000 in
theorem op_years {μ : zMem} (hG : zG0 μ) (hS : zGS μ) (hW : zGW μ) (w x : Int) : ∃ r μ1 μ2, fX10_years 5 w x μ = some (r, μ1) ∧ fX11_years 129 w x μ1 = some (r, μ2) ∧ zsc μ μ2 := by
  by_cases c : 0 ≤ w ∧ w < μ 21 3
  · by_cases d : 0 ≤ x ∧ x ≤ 99
    · obtain ⟨H, hH⟩ := zheeds hG hS hW
      obtain ⟨r1, u1, p1, p2, p3⟩ := s10_years hG hS hH c.1 c.2 d.1 d.2
      obtain ⟨r2, u2, q1, q2, q3⟩ := s11_years hG hS hH p3 c.1 c.2 d.1 d.2
      subst p2
      subst q2
      refine ⟨zsm (zyf H w x) (μ 6 1).toNat, u1, u2, ?_, ?_, q3⟩
      · rw [eX10_years, gq_5_3 hG, vq_21 (s3_has w), zb_t c, if_neg (by decide), if_neg (by omega : ¬ x < 0), if_pos d.2]
        exact p1
      · rw [eX11_years, vq_129 (ziW hW p3 w), zb_t c, if_neg (by decide), zcall_of (s11_within x 0 99), zb_t d, if_pos (by decide)]
        exact q1
    · refine ⟨-1, μ, μ, ?_, ?_, zsc_r⟩
      · rw [eX10_years, gq_5_3 hG, vq_21 (s3_has w), zb_t c, if_neg (by decide)]
        by_cases e : x < 0
        · rw [if_pos e]
        · rw [if_neg e, if_neg (by omega : ¬ x ≤ 99)]
      · rw [eX11_years, vq_129 (ziW hW zsc_r w), zb_t c, if_neg (by decide), zcall_of (s11_within x 0 99), zb_f d, if_neg (fun q => q rfl)]
  · refine ⟨-1, μ, μ, ?_, ?_, zsc_r⟩
    · rw [eX10_years, gq_5_3 hG, vq_21 (s3_has w), zb_f c, if_pos rfl]
    · rw [eX11_years, vq_129 (ziW hW zsc_r w), zb_f c, if_pos rfl]
