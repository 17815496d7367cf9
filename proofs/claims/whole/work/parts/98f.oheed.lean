/-! ===== heed ===== -/
set_option maxHeartbeats 400000 in
theorem op_heed {μ : zMem} (hG : zG0 μ) (hS : zGS μ) (hW : zGW μ) (w s : Int) : ∃ r μ1 μ2, fX10_heed 5 w s μ = some (r, μ1) ∧ fX11_heed 129 w s μ1 = some (r, μ2) ∧ zsc μ μ2 := by
  have hw3 := hW.1
  have i1 : fX11_isWriter 129 w μ = some (zb (0 ≤ w ∧ w < μ 21 3), μ) := s11_isWriter hw3.2.2 hw3.1 hw3.2.1 w
  by_cases c : 0 ≤ w ∧ w < μ 21 3
  · by_cases d : 0 ≤ s ∧ s < μ 6 1
    · obtain ⟨h, hh, p, q⟩ := zheed hG hS hW c.1 c.2 d.1 d.2
      obtain ⟨u1, p1, p2⟩ := p μ zsc_r
      obtain ⟨u2, q1, q2⟩ := q u1 p2
      refine ⟨h, u1, u2, ?_, ?_, q2⟩
      · unfold fX10_heed
        rw [gq_5_3 hG, vq_21 (s3_has w), zb_t c, if_neg (by decide), gq_5_0 hG, vq_6 (s5_has s), zb_t d, if_pos (by decide), gq_5_3 hG, vq_21 p1]
      · have hG1 := zsc_G0 p2 hG
        have e21 : u1 21 3 = μ 21 3 := p2 _ _ (by omega) (by omega) (by omega) (by omega) (by omega)
        have e6 : u1 6 1 = μ 6 1 := p2 _ _ (by omega) (by omega) (by omega) (by omega) (by omega)
        have w1 := (zsc_GW p2 hW).1
        have j1 : fX11_isWriter 129 w u1 = some (1, u1) := by
          rw [s11_isWriter w1.2.2 w1.1 w1.2.1 w, e21, zb_t c]
        have j2 : fX11_isSaying 129 s u1 = some (1, u1) := by
          rw [s11_isSaying (zsc_GS p2 hS), e6, zb_t d]
        unfold fX11_heed
        rw [vq_129 j1, zjn_ok, if_neg (by decide), vq_129 j2, if_neg (by decide), vq_129 q1]
    · refine ⟨-1, μ, μ, ?_, ?_, zsc_r⟩
      · unfold fX10_heed
        rw [gq_5_3 hG, vq_21 (s3_has w), zb_t c, if_neg (by decide), gq_5_0 hG, vq_6 (s5_has s), zb_f d, if_neg (fun q => q rfl)]
      · have j2 : fX11_isSaying 129 s μ = some (0, μ) := by
          rw [s11_isSaying hS, zb_f d]
        unfold fX11_heed
        rw [vq_129 i1, zb_t c, zjn_ok, if_neg (by decide), vq_129 j2, if_pos rfl]
  · refine ⟨-1, μ, μ, ?_, ?_, zsc_r⟩
    · unfold fX10_heed
      rw [gq_5_3 hG, vq_21 (s3_has w), zb_f c, if_pos rfl]
    · unfold fX11_heed
      rw [vq_129 i1, zb_f c, zjn_ok, if_pos rfl]
