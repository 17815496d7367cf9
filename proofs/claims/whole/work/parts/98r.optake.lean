/-! ===== take ===== -/
set_option maxHeartbeats 400000 in
theorem op_take {μ : zMem} (hG : zG0 μ) (hS : zGS μ) (hW : zGW μ) (hP : zGP μ) (w s : Int) : ∃ r μ1 μ2, fX10_take 5 w s μ = some (r, μ1) ∧ fX11_take 129 w s μ1 = some (r, μ2) ∧ zGP μ2 := by
  obtain ⟨p0, p10, p20⟩ := hP.1
  obtain ⟨w0, w4, w9⟩ := hW.1
  have h16 := hS.2.1
  have h00 := hS.1
  by_cases cw : 0 ≤ w ∧ w < μ 21 3
  rotate_left
  · refine ⟨-1, μ, μ, ?_, ?_, hP⟩
    · unfold fX10_take
      rw [gq_5_3 hG, vq_21 (s3_has w), zb_f cw, if_neg (fun q => q rfl)]
    · rw [eX11_take, vq_129 (ziW hW zsc_r w), zb_f cw, if_neg (fun q => q rfl)]
  have ww1 : w < 4 := by omega
  obtain ⟨P, hP3⟩ : ∃ P, μ 34 3 = P := ⟨_, rfl⟩
  by_cases hP10 : P = 10
  · have eo := s1_open_f hG (w := w) (by rw [hP3, hP10])
    have ep : fX1_paper 34 (-3) μ = some (-1, μ) := by rw [s1_paper hG p10, if_neg (by omega)]
    refine ⟨-3, μ, μ, ?_, ?_, hP⟩
    · unfold fX10_take
      rw [gq_5_3 hG, vq_21 (s3_has w), zb_t cw, if_pos (by decide), gq_5_4 hG, vq_34 eo, gq_5_4 hG, vq_34 ep, if_neg (by decide)]
    · rw [eX11_take, vq_129 (ziW hW zsc_r w), zb_t cw, if_pos (by decide), gf_129, show ((20 : Nat) : Int) = 20 from rfl, p20, hP3, hP10, if_neg (by decide)]
  have h0 : 0 ≤ P := by omega
  have h1 : P < 10 := by omega
  have hz : zbP P = 53 + 6 * P := rfl
  have hzL : zbL w = 26 + 2 * w := rfl
  obtain ⟨N, hN⟩ : ∃ N : Nat, μ 6 1 = N := ⟨(μ 6 1).toNat, by omega⟩
  obtain ⟨H, hH⟩ := zheed4 hG hS hW cw.1 cw.2
  obtain ⟨-, -, -, -, -, -, -, -, -, -, x8, x9⟩ := hW.2 w cw.1 cw.2
  obtain ⟨hb, hhb⟩ : ∃ hb, μ (zbL w) 3 = hb := ⟨_, rfl⟩
  obtain ⟨wf, hwf⟩ : ∃ wf : Int → Int, ∀ i, μ 8 i = wf i := ⟨_, fun _ => rfl⟩
  obtain ⟨of, hof⟩ : ∃ of : Int → Int, ∀ i, μ 10 i = of i := ⟨_, fun _ => rfl⟩
  obtain ⟨f, hf⟩ : ∃ f : Nat → Bool, ∀ n : Nat, f n = decide (¬ zdr s n ≥ H n) := ⟨_, fun _ => rfl⟩
  obtain ⟨e, he⟩ : ∃ e : Nat → zEn, ∀ n : Nat, e n = ((n : Int), μ 9 n, zdo (μ 8 n) (μ (zbL w) 2) (μ 11 n), 0) := ⟨_, fun _ => rfl⟩
  have sy : ∀ n : Nat, n < N → (0 ≤ μ 9 n ∧ μ 9 n ≤ 3) ∧ (1 ≤ μ 11 n ∧ μ 11 n ≤ 30) ∧ μ 130 (16 + n) = μ 9 n ∧ μ 130 (48 + n) = μ 11 n ∧ (0 ≤ μ 8 n ∧ μ 8 n ≤ 10) ∧ μ 130 n = μ 8 n ∧ (0 ≤ μ 10 n ∧ μ 10 n ≤ 7) ∧ μ 130 (32 + n) = μ 10 n := fun n hn => zsayok hS (by omega) (by omega)
  have hlok : zlok (μ 6 1) (zlt f e N) := (zlt_ok N (by omega) (fun n hn => by
    obtain ⟨y1, y2, -⟩ := sy n hn
    have y3 := zdo_b (a := μ 8 n) (b := μ (zbL w) 2) (l := μ 11 n) (by omega) y2.2
    rw [he]
    exact ⟨⟨⟨by show (0 : Int) ≤ n; omega, by show (n : Int) < _; omega⟩, y1, ⟨y3.1, by show zdo (μ 8 n) (μ (zbL w) 2) (μ 11 n) ≤ 999; omega⟩, (by decide : (0 : Int) ≤ 0), (by decide : (0 : Int) ≤ 1)⟩, rfl⟩)).1
  rw [hN] at hlok
  have hsu := zlt_su (f := f) (e := e) N (fun n hn => by
    obtain ⟨y1, y2, -⟩ := sy n hn
    rw [he]
    exact zdo_b (by omega) y2.2)
  have hok : zlk N (zlt f e N) := zlk_of hlok (by omega)
  -- the class
  have eo := s1_open hG (w := w) hP3 h0 h1
  have hGo := zop1_G (P := P) (w := w) hG h0 h1
  have fo : ∀ a j : Int, ¬ (53 ≤ a) → ¬ (a = 34 ∧ j = 3) → zop1 μ P w a j = μ a j := fun a j q1 q2 => by
    unfold zop1 zupd
    rw [if_neg (by omega), if_neg (by omega), if_neg (by omega)]
  have fo2 : ∀ a j : Int, 113 ≤ a → zop1 μ P w a j = μ a j := fun a j q1 => by
    unfold zop1 zupd
    rw [if_neg (by omega), if_neg (by omega), if_neg (by omega)]
  have ep : fX1_paper 34 P (zop1 μ P w) = some (zbP P, zop1 μ P w) := by
    have q : zop1 μ P w 34 3 = P + 1 := zu_eq
    rw [s1_paper hGo (by omega), if_pos (by omega)]
  have hdo : zsd μ (zop1 μ P w) := ⟨fun a j q1 q2 _ => fo a j (by omega) (by omega), fun a j q1 q2 => fo2 a j (by omega)⟩
  have hSo := zGS_d hS hdo (fo2 _ _ (by omega))
  obtain ⟨μ1, c1, c2, c3, c4, c5⟩ := c_take hGo hSo hdo hH cw.1 ww1 h0 h1 (zop1_C h0) hN (s := s) hf (e := e) (fun n hn => by rw [he, fo _ _ (by omega) (by omega), fo _ _ (by omega) (by omega), fo _ _ (by omega) (by omega), fo _ _ (by omega) (by omega)]) ((fo _ _ (by omega) (by omega)).trans hhb) (fun i => (fo _ _ (by omega) (by omega)).trans (hwf i)) (fun i => (fo _ _ (by omega) (by omega)).trans (hof i)) hok
  have hG1 := zoX_G0 h0 h1 c3 hGo
  have hd1 : zsd μ μ1 := zsd_t hdo (zoX_d h0 h1 c3)
  have h61 : μ1 129 6 = μ 129 6 := (c3 _ _ (by omega) (by omega) (by omega)).trans (fo2 _ _ (by omega))
  have hS1 := zGS_d hS hd1 h61
  have h91 : μ1 129 9 = μ 21 3 := ((c3 _ _ (by omega) (by omega) (by omega)).trans (fo2 _ _ (by omega))).trans w9
  have h201 : μ1 129 20 = P := ((c3 _ _ (by omega) (by omega) (by omega)).trans (fo2 _ _ (by omega))).trans (p20.trans hP3)
  -- the reference
  have hG2 := zop2_G (P := P) (w := w) hG1
  have f2 : ∀ a j : Int, ¬ (140 ≤ a ∧ a ≤ 145) → ¬ (a = 129 ∧ j = 20) → zop2 μ1 P w a j = μ1 a j := fun a j q1 q2 => by
    unfold zop2 zupd
    rw [if_neg (by omega), if_neg (by omega), if_neg (by omega)]
  have hd2 : zsd μ (zop2 μ1 P w) := zsd_t hd1 ⟨fun a j q1 q2 _ => f2 a j (by omega) (by omega), fun a j q1 q2 => f2 a j (by omega) (by omega)⟩
  have hS2 := zGS_d hS hd2 ((f2 _ _ (by omega) (by omega)).trans h61)
  have g130 : ∀ j, zop2 μ1 P w 130 j = μ 130 j := fun j => hd2.2 _ _ (by omega) (by omega)
  have g135 : zop2 μ1 P w 135 w = μ (zbL w) 2 := (hd2.2 _ _ (by omega) (by omega)).trans x8
  have g136 : zop2 μ1 P w 136 w = hb := ((hd2.2 _ _ (by omega) (by omega)).trans x9).trans hhb
  have toN : ∀ i : Int, 0 ≤ i → i < (N : Int) → ∃ n : Nat, i = n ∧ n < N := fun i a b => ⟨i.toNat, by omega, by omega⟩
  obtain ⟨μ2, r1, r2, r3⟩ := r_take hG2 hS2 hd2 hH cw.1 ww1 h0 h1 zop2_R hN (s := s) hf (e := e) (fun n hn => by
    obtain ⟨-, -, y1, y2, -, y3, -⟩ := sy n hn
    rw [he, g130, g130, g130, g135, y1, y2, y3]) (fun n hn => by
    obtain ⟨-, y0, -, y2, -⟩ := sy n hn
    rw [g130, y2]
    omega) g136 (wf := wf) (of := of) (fun i a b => by
    obtain ⟨n, rfl, hn⟩ := toN i a b
    rw [g130, (sy n hn).2.2.2.2.2.1, hwf]) (fun i a b => by
    obtain ⟨n, rfl, hn⟩ := toN i a b
    rw [g130, (sy n hn).2.2.2.2.2.2.2, hof]) hok c5
  refine ⟨P, μ1, μ2, ?_, ?_, ?_⟩
  · have et : fX3_takeDown 21 w s (zbP P) (zop1 μ P w) = some (0, μ1) := by
      have hh : fX3_has 21 w (zop1 μ P w) = some (1, zop1 μ P w) := by
        rw [s3_has, fo _ _ (by omega) (by omega), zb_t cw]
      rw [eX3_takeDown, vq_21 hh, if_pos (by decide), gq_21_2 hGo, aq_22 hGo cw.1 ww1]
      exact c1
    have hne : zbP P ≠ -1 := by omega
    unfold fX10_take
    rw [gq_5_3 hG, vq_21 (s3_has w), zb_t cw, if_pos (by decide), gq_5_4 hG, vq_34 eo, gq_5_4 hGo, vq_34 ep, if_pos hne, gq_5_3 hGo, vq_21 et]
  · have iw : fX11_isWriter 129 w μ1 = some (1, μ1) := by
      rw [s11_isWriter h91 w0 w4, zb_t cw]
    have hp1 : -2147483648 ≤ P + 1 ∧ P + 1 < 2147483648 := ⟨by omega, by omega⟩
    obtain ⟨v1, hv1⟩ : ∃ v1, v1 = zupd μ1 129 20 (P + 1) := ⟨_, rfl⟩
    have hGv1 : zG0 v1 := by rw [hv1]; exact zG0_up hG1 rfl
    obtain ⟨v2, hv2⟩ : ∃ v2, v2 = zupd v1 140 P w := ⟨_, rfl⟩
    have hGv2 : zG0 v2 := by rw [hv2]; exact zG0_up hGv1 (zrf_R (by decide) (by decide))
    have hv3 : zupd v2 141 P 0 = zop2 μ1 P w := by rw [hv2, hv1]; rfl
    have hPne : P ≠ 10 := hP10
    rw [eX11_take, vq_129 iw, if_pos (by decide), gf_129, show ((20 : Nat) : Int) = 20 from rfl, h201, if_pos hPne, gf_129, show ((20 : Nat) : Int) = 20 from rfl, h201, gf_129, show ((20 : Nat) : Int) = 20 from rfl, h201, zw32_id hp1.1 hp1.2, pf_129, show ((20 : Nat) : Int) = 20 from rfl, ← hv1, gq_129_21 hGv1, as_140 h0 h1, ← hv2, gq_129_22 hGv2, as_141 h0 h1, hv3]
    exact r1
  · have k1 : zsc μ1 (zrs μ μ1) := zsc_s zrs_sc
    have k2 : zsc μ2 (zrs μ μ2) := zsc_s zrs_sc
    have z1 : ∀ a j : Int, zss a j → zop1 μ P w a j = μ a j := fun a j q => by
      unfold zop1 zupd
      rw [if_neg (by omega), if_neg (by omega), if_neg (by omega)]
    have z2 : ∀ a j : Int, zss a j → zop2 (zrs μ μ1) P w a j = zrs μ μ1 a j := fun a j q => by
      unfold zop2 zupd
      rw [if_neg (by omega), if_neg (by omega), if_neg (by omega)]
    have z3 : ∀ a j : Int, ¬ zss a j → zop2 (zrs μ μ1) P w a j = zop2 μ1 P w a j := fun a j q => by
      unfold zop2 zupd
      rw [zrs_n q]
    have c3' : zoC P (zop1 μ P w) (zrs μ μ1) := fun a j q1 q2 => by
      by_cases q : zss a j
      · rw [zrs_y q, z1 a j q]
      · rw [zrs_n q]
        exact c3 a j q q1 q2
    have r3' : zoR P (zop2 (zrs μ μ1) P w) (zrs μ μ2) := fun a j q1 q2 => by
      by_cases q : zss a j
      · rw [zrs_y q, z2 a j q, zrs_y q]
      · rw [zrs_n q, z3 a j q]
        exact r3 a j q q1 q2
    rw [← hN] at c4
    exact zsc_GP zrs_sc (zGP_new (W := μ 21 3) hP hP3 h0 h1 (by omega) cw.2 c4 (zpC_s h0 h1 c2 k1) c3' (zpR_s r2 k2) r3')
