/-! ===== ask: how likely one of two gives ===== -/
def zpy (H : Int → Int → Int) (a b s : Int) : Int := 10000 - (100 - H a s) * (100 - H b s)
set_option maxHeartbeats 400000 in
theorem zpq1 {h g : Int} (h0 : 0 ≤ h) (h1 : h ≤ 100) (g0 : 0 ≤ g) (g1 : g ≤ 100) : 0 ≤ 10000 - (100 - h) * (100 - g) ∧ 10000 - (100 - h) * (100 - g) ≤ 10000 ∧ zw32 (10000 - zw32 (zw32 (100 - h) * zw32 (100 - g))) = 10000 - (100 - h) * (100 - g) := by
  have a1 : 0 ≤ (100 - h) * (100 - g) := Int.mul_nonneg (by omega) (by omega)
  have a2 : (100 - h) * (100 - g) ≤ 100 * 100 := Int.mul_le_mul (by omega) (by omega) (by omega) (by decide)
  rw [zw32_id (x := 100 - h) (by omega) (by omega), zw32_id (x := 100 - g) (by omega) (by omega), zw32_id (x := (100 - h) * (100 - g)) (by omega) (by omega)]
  exact ⟨by omega, by omega, zw32_id (by omega) (by omega)⟩
set_option maxHeartbeats 400000 in
theorem zpa {a y : Int} {n : Nat} (hn : n < 1000) (a0 : 0 ≤ a) (a1 : a ≤ 10000 * n) (y0 : 0 ≤ y) (y1 : y ≤ 10000) : zw32 (a + y) = a + y := zw32_id (by omega) (by omega)
/-- what one of the two is worth over all sayings -/
def zpq (μ : zMem) (H : Int → Int → Int) (a b : Int) : Int := zsm (zpy H a b) (μ 6 1).toNat
set_option maxHeartbeats 400000 in
theorem zpy_le {μ : zMem} {H : Int → Int → Int} (hH : zhd μ H) (a b : Int) {N : Nat} : ∀ n : Nat, n ≤ N → 0 ≤ zsm (zpy H a b) n ∧ zsm (zpy H a b) n ≤ 10000 * n := zsm_le (fun i _ _ => by
  have := zpq1 (hH.1 a i).1 (hH.1 a i).2 (hH.1 b i).1 (hH.1 b i).2
  exact ⟨this.1, this.2.1⟩)
set_option maxHeartbeats 400000 in
theorem zpq_0 {μ : zMem} {H : Int → Int → Int} (hH : zhd μ H) (a b : Int) : 0 ≤ zpq μ H a b := (zpy_le hH a b _ (Nat.le_refl _)).1
set_option maxHeartbeats 400000 in
theorem s3_pair {μ v : zMem} (hG : zG0 μ) (hS : zGS μ) {H : Int → Int → Int} (hH : zhd μ H) (hv : zsc μ v) {a b : Int} (a0 : 0 ≤ a) (aW : a < μ 21 3) (b0 : 0 ≤ b) (bW : b < μ 21 3) : ∃ u', fX3_pairChance 21 a b v = some (zpq μ H a b, u') ∧ zsc μ u' := by
  have h16 := hS.2.1
  have hN := hS.1
  have hb2 := zpy_le (N := (μ 6 1).toNat) hH a b
  have go : ∃ r u', lX3_pairChance_1 21 a b 0 0 v = some (r, u') ∧ (r = zpq μ H a b ∧ zsc μ u') := by
    unfold lX3_pairChance_1
    refine zli2 (Q := fun r u => r = zpq μ H a b ∧ zsc μ u) (fun n x y u => x = zsm (zpy H a b) n ∧ y = n ∧ zsc μ u) (μ 6 1).toNat (by omega) ?_ ?_ ⟨rfl, rfl, hv⟩
    · intro k n x y u hn hI
      obtain ⟨rfl, rfl, hu⟩ := hI
      have e6 : u 6 1 = μ 6 1 := hu _ _ (by omega) (by omega) (by omega) (by omega) (by omega)
      have hs := hb2 n (by omega)
      have hn6 : n < 1000000 := by omega
      have hn3 : n < 1000 := by omega
      obtain ⟨u1, p1, p2⟩ := (hH.2 a n a0 aW (by omega) (by omega)).1 u hu
      obtain ⟨u2, q1, q2⟩ := (hH.2 b n b0 bW (by omega) (by omega)).1 u1 p2
      have c : ¬ (n : Int) ≥ u 6 1 := by omega
      have hG1 := zsc_G0 hu hG
      have hy := zpq1 (hH.1 a n).1 (hH.1 a n).2 (hH.1 b n).1 (hH.1 b n).2
      have ha := zpa (n := n) hn3 hs.1 hs.2 hy.1 hy.2.1
      have hp := zupn hn6
      refine ⟨zsm (zpy H a b) (n + 1), ((n + 1 : Nat) : Int), u2, ⟨rfl, rfl, q2⟩, ?_⟩
      show zgf 3 0 21 u _ = _
      rw [gq_21_0 hG1, vq_6 s5_size, if_neg c, vq_21 p1, vq_21 q1, hy.2.2, ha, hp]
      rfl
    · intro k x y u hI
      obtain ⟨rfl, rfl, hu⟩ := hI
      have e6 : u 6 1 = μ 6 1 := hu _ _ (by omega) (by omega) (by omega) (by omega) (by omega)
      have c : ((μ 6 1).toNat : Int) ≥ u 6 1 := by omega
      have hG1 := zsc_G0 hu hG
      refine ⟨zpq μ H a b, u, ?_, rfl, hu⟩
      show zgf 3 0 21 u _ = _
      rw [gq_21_0 hG1, vq_6 s5_size, if_pos c]
      rfl
  obtain ⟨r, u', p1, p2, p3⟩ := go
  subst p2
  exact ⟨u', by rw [eX3_pairChance]; exact p1, p3⟩
