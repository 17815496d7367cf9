/-! ===== writer ===== -/
def zoU (μ u : zMem) : Prop := ∀ a j : Int, ¬ (a = 129 ∧ 14 ≤ j ∧ j ≤ 18) → u a j = μ a j
set_option maxHeartbeats 400000 in
theorem zoU_G0 {μ u : zMem} (h : zoU μ u) (hG : zG0 μ) : zG0 u := zG0_keep hG (fun a j hr => h a j (fun q => by
    obtain ⟨rfl, q1, q2⟩ := q
    rcases (show j = 14 ∨ j = 15 ∨ j = 16 ∨ j = 17 ∨ j = 18 by omega) with rfl | rfl | rfl | rfl | rfl <;> · revert hr; decide))
set_option maxHeartbeats 400000 in
theorem r_workOut {μ : zMem} {T : Nat → Int} {n : Nat} (hG : zG0 μ) (h120 : n ≤ 120) (hT : ∀ i : Nat, i < n → 0 ≤ T i) (fr : Int) (ht : (fr < 0 ∧ ∀ i : Nat, i < n → μ 134 i = T i) ∨ ∃ w : Int, 0 ≤ w ∧ w < 4 ∧ fr = 120 * w ∧ ∀ i : Nat, i < n → μ 137 (120 * w + i) = T i) :
    ∃ r u', fX11_workOut 129 fr n μ = some (r, u') ∧ zoU μ u' ∧ (∀ g, ztx (zgn T n) n = .inl g → u' 129 17 = g) ∧ ∀ Ls, ztx (zgn T n) n = .inr Ls → u' 129 17 = -1 ∧ zLw (μ 139) 0 Ls r := by
  obtain ⟨u, hu⟩ : ∃ u, u = zupd (zupd (zupd (zupd (zupd μ 129 14 fr) 129 15 0) 129 16 n) 129 17 (-1)) 129 18 0 := ⟨_, rfl⟩
  have hu1 : zoU μ u := fun a j q => by
    rw [hu]
    unfold zupd
    rw [if_neg (by omega), if_neg (by omega), if_neg (by omega), if_neg (by omega), if_neg (by omega)]
  have e14 : u 129 14 = fr := by rw [hu, zu_j (by decide), zu_j (by decide), zu_j (by decide), zu_j (by decide), zu_eq]
  have e15 : u 129 15 = ((0 : Nat) : Int) := by rw [hu, zu_j (by decide), zu_j (by decide), zu_j (by decide), zu_eq]; rfl
  have e16 : u 129 16 = n := by rw [hu, zu_j (by decide), zu_j (by decide), zu_eq]
  have e17 : u 129 17 = -1 := by rw [hu, zu_j (by decide), zu_eq]
  have e18 : u 129 18 = 0 := by rw [hu, zu_eq]
  have H : zTr u T n := by
    refine ⟨zoU_G0 hu1 hG, e16, h120, hT, ?_⟩
    rw [e14]
    rcases ht with ⟨a, b⟩ | ⟨w, w0, w1, a, b⟩
    · exact Or.inl ⟨a, fun i hi => (hu1 _ _ (by omega)).trans (b i hi)⟩
    · exact Or.inr ⟨w, w0, w1, a, fun i hi => (hu1 _ _ (by omega)).trans (b i hi)⟩
  have e139 : u 139 = μ 139 := funext (fun j => hu1 _ _ (by omega))
  have go : fX11_workOut 129 fr n μ = lX11_workOut_1 129 0 0 1 u := by
    rw [eX11_workOut, pf_129, pf_129, pf_129, pf_129, pf_129, hu]
    rfl
  obtain ⟨x1, x2⟩ := v_lines H (u := u) zoV_r e15 e17 e18
  have fr2 : ∀ u', zoV u u' → zoU μ u' := fun u' h a j q => (h a j (by omega)).trans (hu1 a j q)
  cases e : ztx (zgn T n) n with
  | inl g =>
    obtain ⟨r, u', q1, q2, q3⟩ := x1 g e
    exact ⟨r, u', go.trans q1, fr2 u' q2, fun g' h => (by cases h; exact q3), fun Ls h => (by cases h)⟩
  | inr Ls =>
    obtain ⟨r, u', q1, q2, q3, q4⟩ := x2 Ls e
    rw [e139] at q4
    exact ⟨r, u', go.trans q1, fr2 u' q2, fun g' h => (by cases h), fun Ls' h => (by cases h; exact ⟨q3, q4⟩)⟩
def zWd (μ : zMem) (i : Int) : Prop := ∃ (T : Nat → Int) (n : Nat) (Ls : List zLn), n ≤ 120 ∧ (∀ k : Nat, k < n → 0 ≤ T k ∧ μ 137 (120 * i + k) = T k) ∧ μ 138 i = n ∧ ztx (zgn T n) n = .inr Ls ∧ μ (zbL i) 1 = (zfl Ls).length ∧ (zfl Ls).length ≤ 121 ∧ (∀ (k : Nat) (c : Int), (zfl Ls)[k]? = some c → μ (zbL i + 1) k = c) ∧ μ 135 i = μ (zbL i) 2 ∧ μ 136 i = μ (zbL i) 3
def zGW (μ : zMem) : Prop := (0 ≤ μ 21 3 ∧ μ 21 3 ≤ 4 ∧ μ 129 9 = μ 21 3) ∧ ∀ i : Int, 0 ≤ i → i < μ 21 3 → zWd μ i
set_option maxHeartbeats 400000 in
theorem zWd_o {μ ν : zMem} {i : Int} (h : zWd μ i) (h137 : ∀ k : Int, 0 ≤ k → k < 120 → ν 137 (120 * i + k) = μ 137 (120 * i + k)) (h138 : ν 138 i = μ 138 i) (h135 : ν 135 i = μ 135 i) (h136 : ν 136 i = μ 136 i) (hL : ∀ j : Int, 1 ≤ j → j ≤ 3 → ν (zbL i) j = μ (zbL i) j) (hr : ∀ j, ν (zbL i + 1) j = μ (zbL i + 1) j) : zWd ν i := by
  obtain ⟨T, n, Ls, a1, a2, a3, a4, a5, a6, a7, a8, a9⟩ := h
  refine ⟨T, n, Ls, a1, fun k hk => ⟨(a2 k hk).1, (h137 k (by omega) (by omega)).trans (a2 k hk).2⟩, h138.trans a3, a4, (hL 1 (by omega) (by omega)).trans a5, a6, fun k c hc => (hr k).trans (a7 k c hc), ?_, ?_⟩
  · rw [h135, hL 2 (by omega) (by omega)]; exact a8
  · rw [h136, hL 3 (by omega) (by omega)]; exact a9
set_option maxHeartbeats 400000 in
theorem zGW_keep {μ μ' : zMem} (h : zGW μ) (k : ∀ a j : Int, ztag a j ∈ [303, 400, 401, 402, 403, 1109, 1110, 1111, 1112, 1113] → μ' a j = μ a j) : zGW μ' := by
  obtain ⟨⟨h0, h1, h2⟩, h3⟩ := h
  have e : μ' 21 3 = μ 21 3 := k 21 3 (by rw [tf_21_3]; decide)
  refine ⟨⟨by omega, by omega, by rw [e, k 129 9 (by rw [tf_129_9]; decide)]; exact h2⟩, fun i i0 i1 => ?_⟩
  refine zWd_o (h3 i i0 (by omega)) (fun j _ _ => k _ _ (by rw [tg_137]; decide)) (k _ _ (by rw [tg_138]; decide)) (k _ _ (by rw [tg_135]; decide)) (k _ _ (by rw [tg_136]; decide)) (fun j j1 j2 => k _ _ ?_) (fun j => k _ _ (by rw [tgLr i0 (by omega)]; decide))
  rw [tgL i0 (by omega)]
  rcases (show j = 1 ∨ j = 2 ∨ j = 3 by omega) with rfl | rfl | rfl <;> decide
set_option maxHeartbeats 400000 in
theorem t_admit {u : zMem} (hG : zG0 u) {W : Int} (hW : u 21 3 = W) (w0 : 0 ≤ W) (w1 : W < 4) {C : List Int} (hC : zcd u C) (hl : C.length ≤ 121) (me hb : Int) :
    fX3_admit 21 18 me hb u = some (W, zupd (zupd (zupd (zupd (zcpm u 20 0 (zbL W + 1) 0 C.length) (zbL W) 1 C.length) (zbL W) 2 me) (zbL W) 3 hb) 21 3 (W + 1)) := by
  have hz : zbL W = 26 + 2 * W := rfl
  have h3 := hC.1
  have hmi : zmi (C.length : Int) 121 = C.length := by unfold zmi; rw [if_neg (by omega)]
  have hfull : fX3_isFull 21 u = some (0, u) := by
    unfold fX3_isFull
    clear hC
    simp (disch := omega) only [↓zcall_ok, zcall_ok, ↓zjn_ok, zjn_ok, ↓zbl_0, zbl_0, ↓zbl_1, zbl_1, ↓if_pos, if_pos, ↓if_neg, if_neg, ↓zb_ite, zb_ite, ↓zb_itn, zb_itn, ↓gf_21, gf_21, ↓pf_21, pf_21, ↓vc_21, vc_21, if_true, if_false, not_true_eq_false, not_false_eq_true, zu_eq, zu_a, zu_j, ge_iff_le, gt_iff_lt, ne_eq, Int.cast_ofNat_Int, Int.add_zero, Int.zero_add, Int.reduceAdd, Int.reduceSub, Int.reduceMul, Int.reduceNeg]
  have hlen : ∀ K : Int → zRs, zlen 20 (zbL W + 1) K = K 121 := fun K => zlen_ok (n := 121) (shL w0 w1) (by omega)
  have hcp : ∀ K : zMem → zRs, zcopy 20 20 0 (zbL W + 1) 0 (C.length : Int) u K = K (zcpm u 20 0 (zbL W + 1) 0 C.length) := fun K => zcopy_ok (n := 121) (n2 := 121) rfl (shL w0 w1) (by decide) (by omega) (by decide) (by decide) (by omega) (by omega) (by omega)
  have hcc : fX9_copyCodes 18 (zbL W + 1) u = some ((C.length : Int), zcpm u 20 0 (zbL W + 1) 0 C.length) := by
    unfold fX9_copyCodes
    rw [gf_18, show ((3 : Nat) : Int) = 3 from rfl, h3, hlen, gq_18_1 hG, hmi, hcp]
  have hbe : fX4_become (zbL W) 18 me hb u = some (0, zupd (zupd (zupd (zcpm u 20 0 (zbL W + 1) 0 C.length) (zbL W) 1 C.length) (zbL W) 2 me) (zbL W) 3 hb) := by
    unfold fX4_become
    rw [gqL hG w0 w1, vq_18 hcc, pfL w0 w1, pfL w0 w1, pfL w0 w1]
    rfl
  have q : (zupd (zupd (zupd (zcpm u 20 0 (zbL W + 1) 0 C.length) (zbL W) 1 C.length) (zbL W) 2 me) (zbL W) 3 hb) 21 3 = W := by
    rw [zu_a (by omega), zu_a (by omega), zu_a (by omega), zcpm_a (by omega), hW]
  have e1 : zw32 (W + 1) = W + 1 := zw32_id (by omega) (by omega)
  have e2 : zw32 (W + 1 - 1) = W := by rw [zw32_id (by omega) (by omega)]; omega
  unfold fX3_admit
  rw [vq_21 hfull, if_pos rfl, gq_21_2 hG, gf_21, show ((3 : Nat) : Int) = 3 from rfl, hW, aq_22 hG w0 w1, vcL_of w0 w1 hbe, gf_21, show ((3 : Nat) : Int) = 3 from rfl, q, e1, pf_21, show ((3 : Nat) : Int) = 3 from rfl, gf_21, show ((3 : Nat) : Int) = 3 from rfl, zu_eq, e2]
set_option maxHeartbeats 400000 in
theorem zi120 {w k : Int} (h0 : 0 ≤ w) (h1 : w < 4) (h2 : 0 ≤ k) (h3 : k < 120) : zw32 (zw32 (120 * w) + k) = 120 * w + k := by
  rw [zw32_id (x := 120 * w) (by omega) (by omega), zw32_id (by omega) (by omega)]
set_option maxHeartbeats 400000 in
theorem zdn4 {w : Int} (h0 : 0 ≤ w) (h1 : w < 4) : zw32 (w + 1 - 1) = w := by
  rw [zw32_id (by omega) (by omega)]
  omega
set_option maxHeartbeats 400000 in
theorem r_admit {ξ : zMem} (hG : zG0 ξ) {W : Int} (hW : ξ 129 9 = W) (w0 : 0 ≤ W) (w1 : W < 4) {n : Nat} (hn : n ≤ 120) (me hb : Int) :
    lX11_writer_1 129 me hb n 0 ξ = some (W, zupd (zupd (zupd (zupd (zcpm ξ 134 0 137 (120 * W) n) 138 W n) 135 W me) 136 W hb) 129 9 (W + 1)) := by
  unfold lX11_writer_1
  refine zle1 (fun k => (k : Int)) (fun k => zcpm ξ 134 0 137 (120 * W) k) rfl zcpm_0 n (by omega) (fun k m hm => ?_) (fun k => ?_)
  · obtain ⟨ν, hν⟩ : ∃ ν, ν = zcpm ξ 134 0 137 (120 * W) (m : Int) := ⟨_, rfl⟩
    have f : ∀ a j : Int, a ≠ 137 → ν a j = ξ a j := fun a j q => by rw [hν, zcpm_a q]
    have em : zupd ν 137 (120 * W + m) (ξ 134 m) = zcpm ξ 134 0 137 (120 * W) ((m + 1 : Nat) : Int) := by
      have := zcpm_s (μ := ξ) (a := 134) (i := 0) (b := 137) (j := 120 * W) (v := (m : Int)) (by omega)
      rw [Int.zero_add] at this
      rw [hν, this]
      congr 1
    have g12 : ν 129 12 = 137 := (f _ _ (by decide)).trans (g_129_12 hG)
    have g7 : ν 129 7 = 134 := (f _ _ (by decide)).trans (g_129_7 hG)
    have g9 : ν 129 9 = W := (f _ _ (by decide)).trans hW
    have gt : ν 134 m = ξ 134 m := f _ _ (by decide)
    have hlt : ¬ (m : Int) ≥ n := by omega
    have hm1 : m < 1000000 := by omega
    have x0 : (0 : Int) ≤ m := by omega
    have x1 : (m : Int) < 120 := by omega
    have x2 : 0 ≤ 120 * W + (m : Int) := by omega
    have x3 : 120 * W + (m : Int) < 480 := by omega
    have hix := zi120 w0 w1 x0 x1
    have hup := zupn (n := m) hm1
    show (if (m : Int) ≥ n then _ else _) = _
    simp only [← hν]
    rw [if_neg hlt, gf_129, show ((12 : Nat) : Int) = 12 from rfl, g12, gf_129, show ((9 : Nat) : Int) = 9 from rfl, g9, gf_129, show ((7 : Nat) : Int) = 7 from rfl, g7, al_134 x0 x1, gt, hix, as_137 x2 x3, em, hup]
  · obtain ⟨ν, hν⟩ : ∃ ν, ν = zcpm ξ 134 0 137 (120 * W) (n : Int) := ⟨_, rfl⟩
    have f : ∀ a j : Int, a ≠ 137 → ν a j = ξ a j := fun a j q => by rw [hν, zcpm_a q]
    have g13 : ν 129 13 = 138 := (f _ _ (by decide)).trans (g_129_13 hG)
    have g10 : ν 129 10 = 135 := (f _ _ (by decide)).trans (g_129_10 hG)
    have g11 : ν 129 11 = 136 := (f _ _ (by decide)).trans (g_129_11 hG)
    have g9 : ν 129 9 = W := (f _ _ (by decide)).trans hW
    have hge : (n : Int) ≥ n := Int.le_refl _
    have e1 : zw32 (W + 1) = W + 1 := zw32_id (by omega) (by omega)
    have e2 := zdn4 w0 w1
    show (if (n : Int) ≥ n then _ else _) = _
    simp only [← hν]
    rw [if_pos hge, gf_129, show ((13 : Nat) : Int) = 13 from rfl, g13, gf_129, show ((9 : Nat) : Int) = 9 from rfl, g9, as_138 w0 w1, gf_129, show ((10 : Nat) : Int) = 10 from rfl, zu_a (by decide), g10, gf_129, show ((9 : Nat) : Int) = 9 from rfl, zu_a (by decide), g9, as_135 w0 w1, gf_129, show ((11 : Nat) : Int) = 11 from rfl, zu_a (by decide), zu_a (by decide), g11, gf_129, show ((9 : Nat) : Int) = 9 from rfl, zu_a (by decide), zu_a (by decide), g9, as_136 w0 w1, gf_129, show ((9 : Nat) : Int) = 9 from rfl, zu_a (by decide), zu_a (by decide), zu_a (by decide), g9, e1, pf_129, show ((9 : Nat) : Int) = 9 from rfl, gf_129, show ((9 : Nat) : Int) = 9 from rfl, zu_eq, e2]
set_option maxHeartbeats 400000 in
theorem zls_in {T : Nat → Int} {n : Nat} : ∀ (k a : Nat), a ≤ n → (∀ g, zls (zgn T n) k a = .inl g → g ≤ n) ∧ ∀ a' Ls, zls (zgn T n) k a = .inr (a', Ls) → a' ≤ n
  | 0, a, ha => ⟨fun g h => (by cases h), fun a' Ls h => (by cases h; exact ha)⟩
  | k + 1, a, ha => by
    rw [zls_S]
    by_cases c : zgn T n a = 59
    · rw [if_pos c]
      have haN := zgn_lt (T := T) (n := n) (a := a) (by omega)
      obtain ⟨x1, x2⟩ := zln_in (T := T) (n := n) (a := a + 1) (by omega)
      cases e : zln (zgn T n) (a + 1) with
      | inl g => exact ⟨fun g' h => (by cases h; exact x1 g e), fun a' Ls h => (by cases h)⟩
      | inr q =>
        obtain ⟨a', l⟩ := q
        obtain ⟨y1, y2⟩ := zls_in k a' (x2 a' l e).2.2
        dsimp only
        cases e2 : zls (zgn T n) k a' with
        | inl g => exact ⟨fun g' h => (by cases h; exact y1 g e2), fun a' Ls h => (by cases h)⟩
        | inr q =>
          obtain ⟨a'', Ls⟩ := q
          exact ⟨fun g' h => (by cases h), fun b Ms h => (by cases h; exact y2 a'' Ls e2)⟩
    · rw [if_neg c]
      exact ⟨fun g h => (by cases h), fun a' Ls h => (by cases h; exact ha)⟩
set_option maxHeartbeats 400000 in
theorem ztx_in {T : Nat → Int} {n g : Nat} (h : ztx (zgn T n) n = .inl g) : g ≤ n := by
  obtain ⟨x1, x2⟩ := zln_in (T := T) (n := n) (a := 0) (Nat.zero_le _)
  unfold ztx at h
  cases e : zln (zgn T n) 0 with
  | inl g' => rw [e] at h; cases h; exact x1 _ e
  | inr q =>
    obtain ⟨a', l⟩ := q
    rw [e] at h
    dsimp only at h
    obtain ⟨y1, y2⟩ := zls_in (T := T) (n := n) 120 a' (x2 a' l e).2.2
    cases e2 : zls (zgn T n) 120 a' with
    | inl g' => rw [e2] at h; cases h; exact y1 _ e2
    | inr q =>
      obtain ⟨a'', Ls⟩ := q
      rw [e2] at h
      dsimp only at h
      by_cases c : a'' < n
      · rw [if_pos c] at h; cases h; omega
      · rw [if_neg c] at h; cases h
set_option maxHeartbeats 400000 in
theorem zrfL {W j : Int} (h0 : 0 ≤ W) (h1 : W < 4) (j0 : 1 ≤ j) (j1 : j ≤ 3) : zrfs (zbL W) j = false := by
  rcases (show j = 1 ∨ j = 2 ∨ j = 3 by omega) with rfl | rfl | rfl <;> rcases znat4 h0 h1 with rfl | rfl | rfl | rfl <;> rfl
set_option maxHeartbeats 400000 in
theorem zrfLr {W j : Int} (h0 : 0 ≤ W) (h1 : W < 4) : zrfs (zbL W + 1) j = false := by
  have e := shL h0 h1
  have h5 : ¬ zbL W + 1 < 5 := by unfold zbL; omega
  unfold zrfs
  rw [e]
  simp [h5]
set_option maxHeartbeats 400000 in
theorem zG0_cp {u : zMem} {a i b j n : Int} (hG : zG0 u) (hb : ∀ j, zrfs b j = false) : zG0 (zcpm u a i b j n) := zG0_keep hG (fun a' j' hr => zcpm_a (fun q => by
  rw [q, hb] at hr
  cases hr))
set_option maxHeartbeats 400000 in
theorem op_writer {μ : zMem} (hG : zG0 μ) (hT : zGT μ) (hW : zGW μ) (me hb : Int) : ∃ r μ1 μ2, fX10_writer 5 me hb μ = some (r, μ1) ∧ fX11_writer 129 me hb μ1 = some (r, μ2) ∧ zGT μ2 ∧ zGW μ2 ∧ μ 21 3 ≤ μ2 21 3 := by
  obtain ⟨t0, t1, t2, t3, t4⟩ := id hT
  obtain ⟨⟨w0, w1, w2⟩, w3⟩ := id hW
  simp only [eX11_writer]
  unfold fX10_writer
  by_cases hm : 0 ≤ me ∧ me ≤ 10
  rotate_left
  · have e : fX11_within me 0 10 μ = some (0, μ) := by rw [s11_within, zb_f hm]
    refine ⟨-1, μ, μ, ?_, ?_, hT, hW, Int.le_refl _⟩
    · by_cases c : me < 0
      · rw [if_pos c]
      · rw [if_neg c, if_pos (by omega)]
    · rw [zcall_of e, if_pos rfl]
  by_cases hh : 0 ≤ hb ∧ hb ≤ 7
  rotate_left
  · have e : fX11_within me 0 10 μ = some (1, μ) := by rw [s11_within, zb_t hm]
    have e2 : fX11_within hb 0 7 μ = some (0, μ) := by rw [s11_within, zb_f hh]
    refine ⟨-1, μ, μ, ?_, ?_, hT, hW, Int.le_refl _⟩
    · by_cases c : hb < 0
      · rw [if_neg (by omega), if_neg (by omega), if_pos c]
      · rw [if_neg (by omega), if_neg (by omega), if_neg c, if_neg (by omega)]
    · rw [zcall_of e, if_neg (by decide), zcall_of e2, if_neg (by decide)]
  have m1 : ¬ me < 0 := by omega
  have m2 : ¬ me > 10 := by omega
  have m3 : ¬ hb < 0 := by omega
  have b1 : ∀ u, fX11_within me 0 10 u = some (1, u) := fun u => by rw [s11_within, zb_t hm]
  have b2 : ∀ u, fX11_within hb 0 7 u = some (1, u) := fun u => by rw [s11_within, zb_t hh]
  by_cases h4 : μ 21 3 = 4
  · have hfull : fX3_isFull 21 μ = some (1, μ) := by
      unfold fX3_isFull
      simp (disch := omega) only [h4, ↓zcall_ok, zcall_ok, ↓zjn_ok, zjn_ok, ↓zbl_0, zbl_0, ↓zbl_1, zbl_1, ↓if_pos, if_pos, ↓if_neg, if_neg, ↓zb_ite, zb_ite, ↓zb_itn, zb_itn, ↓gf_21, gf_21, ↓pf_21, pf_21, ↓vc_21, vc_21, if_true, if_false, not_true_eq_false, not_false_eq_true, zu_eq, zu_a, zu_j, ge_iff_le, gt_iff_lt, ne_eq, Int.cast_ofNat_Int, Int.add_zero, Int.zero_add, Int.reduceAdd, Int.reduceSub, Int.reduceMul, Int.reduceNeg]
    refine ⟨-3, μ, μ, ?_, ?_, hT, hW, Int.le_refl _⟩
    · rw [if_neg m1, if_neg m2, if_neg m3, if_pos hh.2, gq_5_3 hG, vq_21 hfull, if_neg (by decide)]
    · rw [zcall_of (b1 μ), if_neg (by decide), zcall_of (b2 μ), if_pos (by decide), gf_129, show ((9 : Nat) : Int) = 9 from rfl, w2, if_neg (fun q => q h4)]
  obtain ⟨W, hWe⟩ : ∃ W, μ 21 3 = W := ⟨_, rfl⟩
  have W0 : 0 ≤ W := by omega
  have W4 : W < 4 := by omega
  have hzL : zbL W = 26 + 2 * W := rfl
  have hfull : fX3_isFull 21 μ = some (0, μ) := by
    unfold fX3_isFull
    simp (disch := omega) only [↓zcall_ok, zcall_ok, ↓zjn_ok, zjn_ok, ↓zbl_0, zbl_0, ↓zbl_1, zbl_1, ↓if_pos, if_pos, ↓if_neg, if_neg, ↓zb_ite, zb_ite, ↓zb_itn, zb_itn, ↓gf_21, gf_21, ↓pf_21, pf_21, ↓vc_21, vc_21, if_true, if_false, not_true_eq_false, not_false_eq_true, zu_eq, zu_a, zu_j, ge_iff_le, gt_iff_lt, ne_eq, Int.cast_ofNat_Int, Int.add_zero, Int.zero_add, Int.reduceAdd, Int.reduceSub, Int.reduceMul, Int.reduceNeg]
  obtain ⟨n, hn⟩ : ∃ n : Nat, μ 18 2 = n := ⟨(μ 18 2).toNat, by omega⟩
  obtain ⟨T, hTe⟩ : ∃ T : Nat → Int, ∀ i : Nat, T i = μ 19 i := ⟨fun i => μ 19 i, fun _ => rfl⟩
  have H : zTx μ T n := ⟨hG, hn, by omega, fun i hi => ⟨(hTe i).symm, by rw [hTe]; exact (t4 i (by omega) (by omega)).1⟩⟩
  have hpos : ∀ i : Nat, i < n → 0 ≤ T i := fun i hi => by rw [hTe]; exact (t4 i (by omega) (by omega)).1
  have h134 : ∀ i : Nat, i < n → μ 134 i = T i := fun i hi => by rw [hTe]; exact t3 i (by omega) (by omega)
  have hclr : ∀ u, fX9_clear 18 u = some (0, zupd u 18 2 0) := fun u => by
    unfold fX9_clear
    rw [pf_18]
    rfl
  have hGU : ∀ u, zoU μ u → True := fun _ _ => trivial
  -- the reference, from a memory that has the tape, the writers
  have ref : ∀ μ1 : zMem, zG0 μ1 → (∀ j, μ1 129 j = μ 129 j) → (∀ j, μ1 134 j = μ 134 j) → ∃ r ξ, fX11_workOut 129 (-1) n μ1 = some (r, ξ) ∧ zoU μ1 ξ ∧ (∀ g, ztx (zgn T n) n = .inl g → ξ 129 17 = g) ∧ ∀ Ls, ztx (zgn T n) n = .inr Ls → ξ 129 17 = -1 := fun μ1 hG1 k129 k134 => by
    obtain ⟨r, ξ, q1, q2, q3, q4⟩ := r_workOut hG1 (by omega) hpos (-1) (Or.inl ⟨by decide, fun i hi => (k134 i).trans (h134 i hi)⟩)
    exact ⟨r, ξ, q1, q2, q3, fun Ls h => (q4 Ls h).1⟩
  have refgo : ∀ (μ1 ξ : zMem) (r : Int) (R : zRs), (∀ j, μ1 129 j = μ 129 j) → fX11_workOut 129 (-1) n μ1 = some (r, ξ) → zoU μ1 ξ → (if ξ 129 17 < 0 then lX11_writer_1 129 me hb n 0 (zupd ξ 129 8 0) else some (zw32 (-100 - ξ 129 17), zupd ξ 129 8 0)) = R →
      zcall (fX11_within me 0 10 μ1) (fun v1 u2 => if v1 = 0 then (some ((-1), u2)) else (zcall (fX11_within hb 0 7 u2) (fun v3 u4 => if v3 ≠ 0 then (zgf 11 9 129 u4 (fun v5 => if v5 ≠ 4 then (zgf 11 8 129 u4 (fun v6 => zvc 11 129 (fX11_workOut 129 (-1) v6 u4) (fun v7 u8 => zgf 11 8 129 u8 (fun v9 => zpf 11 8 129 0 u8 (fun u10 => zgf 11 17 129 u10 (fun v11 => if v11 < 0 then (lX11_writer_1 129 me hb v9 0 u10) else (zgf 11 17 129 u10 (fun v32 => some ((zw32 ((-100) - v32)), u10))))))))) else (some ((-3), u4)))) else (some ((-1), u4))))) = R := fun μ1 ξ r R k129 q1 q2 q3 => by
    have e9 : μ1 129 9 = W := (k129 9).trans (w2.trans hWe)
    have e8 : μ1 129 8 = n := (k129 8).trans (t2.trans hn)
    have e8' : ξ 129 8 = n := (q2 _ _ (by omega)).trans e8
    have e17 : zupd ξ 129 8 0 129 17 = ξ 129 17 := zu_j (by decide)
    rw [zcall_of (b1 μ1), if_neg (by decide), zcall_of (b2 μ1), if_pos (by decide), gf_129, show ((9 : Nat) : Int) = 9 from rfl, e9, if_pos (by omega), gf_129, show ((8 : Nat) : Int) = 8 from rfl, e8, vq_129 q1, gf_129, show ((8 : Nat) : Int) = 8 from rfl, e8', pf_129, show ((8 : Nat) : Int) = 8 from rfl, gf_129, show ((17 : Nat) : Int) = 17 from rfl, e17, gf_129, show ((17 : Nat) : Int) = 17 from rfl, e17]
    exact q3
  obtain ⟨p1, p2⟩ := t_parse H
  cases e : ztx (zgn T n) n with
  | inl g =>
    obtain ⟨u, c1, c2⟩ := p1 g e
    have hGu := zoT_G0 c2 hG
    have hG1 : zG0 (zupd u 18 2 0) := zG0_up hGu rfl
    have k1 : ∀ a j : Int, a ≠ 18 → a ≠ 20 → zupd u 18 2 0 a j = μ a j := fun a j q1 q2 => (zu_a q1).trans (c2 _ _ (by omega) q2)
    obtain ⟨r, ξ, x1, x2, x3, -⟩ := ref _ hG1 (fun j => k1 _ _ (by decide) (by decide)) (fun j => k1 _ _ (by decide) (by decide))
    have hξ := x3 g e
    have hle : (g : Int) ≤ 1000 := by
      have := ztx_in e
      omega
    refine ⟨-100 - (g : Int), zupd u 18 2 0, zupd ξ 129 8 0, ?_, refgo _ ξ r _ (fun j => k1 _ _ (by decide) (by decide)) x1 x2 ?_, ?_, ?_, ?_⟩
    · have hz1 : zw32 (-100 - (g : Int)) = -100 - (g : Int) := zw32_id (by omega) (by omega)
      have hn0 : ¬ (g : Int) < 0 := by omega
      rw [if_neg m1, if_neg m2, if_neg m3, if_pos hh.2, gq_5_3 hG, vq_21 hfull, if_pos rfl, gq_5_2 hG, vq_18 c1, zjn_ok, if_neg hn0, hz1]
      show zgf 10 2 5 u _ = _
      rw [gq_5_2 hGu, vq_18 (hclr u)]
    · rw [hξ, if_neg (by omega), zw32_id (by omega) (by omega)]
    · refine ⟨?_, ?_, ?_, fun k k0 k1 => ?_, fun k k0 k1 => ?_⟩
      · rw [zu_a (by decide), x2 _ _ (by omega), zu_eq]; decide
      · rw [zu_a (by decide), x2 _ _ (by omega), zu_eq]; decide
      · rw [zu_eq, zu_a (by decide), x2 _ _ (by omega), zu_eq]
      · rw [zu_a (by decide), x2 _ _ (by omega), zu_eq] at k1
        omega
      · rw [zu_a (by decide), x2 _ _ (by omega), zu_eq] at k1
        omega
    · have k2 : ∀ a j : Int, a ≠ 18 → a ≠ 20 → a ≠ 129 → zupd ξ 129 8 0 a j = μ a j := fun a j q1 q2 q3 => (zu_a q3).trans ((x2 _ _ (by omega)).trans (k1 a j q1 q2))
      refine ⟨⟨by rw [k2 _ _ (by decide) (by decide) (by decide)]; exact w0, by rw [k2 _ _ (by decide) (by decide) (by decide)]; exact w1, ?_⟩, fun i i0 i1 => ?_⟩
      · rw [zu_j (by decide), x2 _ _ (by omega), k1 _ _ (by decide) (by decide), k2 _ _ (by decide) (by decide) (by decide)]
        exact w2
      · rw [k2 _ _ (by decide) (by decide) (by decide)] at i1
        have hzi : zbL i = 26 + 2 * i := rfl
        exact zWd_o (w3 i i0 i1) (fun j _ _ => k2 _ _ (by decide) (by decide) (by decide)) (k2 _ _ (by decide) (by decide) (by decide)) (k2 _ _ (by decide) (by decide) (by decide)) (k2 _ _ (by decide) (by decide) (by decide)) (fun j _ _ => k2 _ _ (by omega) (by omega) (by omega)) (fun j => k2 _ _ (by omega) (by omega) (by omega))
    · rw [zu_a (by decide), x2 _ _ (by omega), k1 _ _ (by decide) (by decide)]
      exact Int.le_refl _
  | inr Ls =>
    obtain ⟨u, c1, c2, c3, c4⟩ := p2 Ls e
    have hGu := zoT_G0 c2 hG
    have hWu : u 21 3 = W := (c2 _ _ (by omega) (by omega)).trans hWe
    have ha := t_admit hGu hWu W0 W4 c3 c4 me hb
    have hGν : zG0 (zupd (zupd (zupd (zupd (zcpm u 20 0 (zbL W + 1) 0 (zfl Ls).length) (zbL W) 1 (zfl Ls).length) (zbL W) 2 me) (zbL W) 3 hb) 21 3 (W + 1)) :=
      zG0_up (zG0_up (zG0_up (zG0_up (zG0_cp hGu (fun j => zrfLr W0 W4)) (zrfL W0 W4 (by decide) (by decide))) (zrfL W0 W4 (by decide) (by decide))) (zrfL W0 W4 (by decide) (by decide))) rfl
    obtain ⟨ν, hν⟩ : ∃ ν, ν = zupd (zupd (zupd (zupd (zcpm u 20 0 (zbL W + 1) 0 (zfl Ls).length) (zbL W) 1 (zfl Ls).length) (zbL W) 2 me) (zbL W) 3 hb) 21 3 (W + 1) := ⟨_, rfl⟩
    rw [← hν] at ha hGν
    have fν : ∀ a j : Int, a ≠ zbL W → a ≠ zbL W + 1 → a ≠ 21 → ν a j = u a j := fun a j q1 q2 q3 => by
      rw [hν, zu_a q3, zu_a q1, zu_a q1, zu_a q1, zcpm_a q2]
    have v1 : ν (zbL W) 1 = (zfl Ls).length := by rw [hν, zu_a (by omega), zu_j (by decide), zu_j (by decide), zu_eq]
    have v2 : ν (zbL W) 2 = me := by rw [hν, zu_a (by omega), zu_j (by decide), zu_eq]
    have v3 : ν (zbL W) 3 = hb := by rw [hν, zu_a (by omega), zu_eq]
    have v21 : ν 21 3 = W + 1 := by rw [hν, zu_eq]
    have vr : ∀ (k : Nat) (c : Int), (zfl Ls)[k]? = some c → ν (zbL W + 1) k = c := fun k c hk => by
      have hl := (List.getElem?_eq_some_iff.mp hk).1
      rw [hν, zu_a (by omega), zu_a (by omega), zu_a (by omega), zu_a (by omega), zcpm_in rfl (by omega) (by omega), show (0 : Int) + ((k : Int) - 0) = k by omega]
      exact c3.2 k c hk
    clear hν
    obtain ⟨μ1, hμ1⟩ : ∃ μ1, μ1 = zupd ν 18 2 0 := ⟨_, rfl⟩
    have hG1 : zG0 μ1 := by rw [hμ1]; exact zG0_up hGν rfl
    have g1 : ∀ a j : Int, a ≠ 18 → μ1 a j = ν a j := fun a j q => by rw [hμ1, zu_a q]
    have k1 : ∀ a j : Int, a ≠ zbL W → a ≠ zbL W + 1 → a ≠ 21 → a ≠ 18 → a ≠ 20 → μ1 a j = μ a j := fun a j q1 q2 q3 q4 q5 => (g1 a j q4).trans ((fν a j q1 q2 q3).trans (c2 _ _ (by omega) q5))
    obtain ⟨r, ξ, x1, x2, -, x4⟩ := ref μ1 hG1 (fun j => k1 _ _ (by omega) (by omega) (by decide) (by decide) (by decide)) (fun j => k1 _ _ (by omega) (by omega) (by decide) (by decide) (by decide))
    have hξ := x4 Ls e
    have hGξ : zG0 (zupd ξ 129 8 0) := zG0_up (zoU_G0 x2 hG1) rfl
    have hWξ : zupd ξ 129 8 0 129 9 = W := (zu_j (by decide)).trans ((x2 _ _ (by omega)).trans ((k1 _ _ (by omega) (by omega) (by decide) (by decide) (by decide)).trans (w2.trans hWe)))
    have hr := r_admit hGξ hWξ W0 W4 (n := n) (by omega) me hb
    obtain ⟨μ2, hμ2⟩ : ∃ μ2, μ2 = zupd (zupd (zupd (zupd (zcpm (zupd ξ 129 8 0) 134 0 137 (120 * W) n) 138 W n) 135 W me) 136 W hb) 129 9 (W + 1) := ⟨_, rfl⟩
    rw [← hμ2] at hr
    have g2 : ∀ a j : Int, a ≠ 129 → a ≠ 135 → a ≠ 136 → a ≠ 137 → a ≠ 138 → μ2 a j = μ1 a j := fun a j q1 q2 q3 q4 q5 => by
      rw [hμ2, zu_a q1, zu_a q3, zu_a q2, zu_a q5, zcpm_a q4, zu_a q1, x2 _ _ (by omega)]
    have y9 : μ2 129 9 = W + 1 := by rw [hμ2, zu_eq]
    have y8 : μ2 129 8 = 0 := by rw [hμ2, zu_j (by decide), zu_a (by decide), zu_a (by decide), zu_a (by decide), zcpm_a (by decide), zu_eq]
    have y18 : μ2 18 2 = 0 := by rw [g2 _ _ (by decide) (by decide) (by decide) (by decide) (by decide), hμ1, zu_eq]
    have y21 : μ2 21 3 = W + 1 := by rw [g2 _ _ (by decide) (by decide) (by decide) (by decide) (by decide), g1 _ _ (by decide), v21]
    have y135 : ∀ i : Int, μ2 135 i = if i = W then me else μ 135 i := fun i => by
      rw [hμ2, zu_a (by decide), zu_a (by decide)]
      by_cases q : i = W
      · rw [if_pos q, q, zu_eq]
      · rw [if_neg q, zu_j q, zu_a (by decide), zcpm_a (by decide), zu_a (by decide), x2 _ _ (by omega), k1 _ _ (by omega) (by omega) (by decide) (by decide) (by decide)]
    have y136 : ∀ i : Int, μ2 136 i = if i = W then hb else μ 136 i := fun i => by
      rw [hμ2, zu_a (by decide)]
      by_cases q : i = W
      · rw [if_pos q, q, zu_eq]
      · rw [if_neg q, zu_j q, zu_a (by decide), zu_a (by decide), zcpm_a (by decide), zu_a (by decide), x2 _ _ (by omega), k1 _ _ (by omega) (by omega) (by decide) (by decide) (by decide)]
    have y138 : ∀ i : Int, μ2 138 i = if i = W then (n : Int) else μ 138 i := fun i => by
      rw [hμ2, zu_a (by decide), zu_a (by decide), zu_a (by decide)]
      by_cases q : i = W
      · rw [if_pos q, q, zu_eq]
      · rw [if_neg q, zu_j q, zcpm_a (by decide), zu_a (by decide), x2 _ _ (by omega), k1 _ _ (by omega) (by omega) (by decide) (by decide) (by decide)]
    have y137 : ∀ j : Int, ¬ (120 * W ≤ j ∧ j < 120 * W + n) → μ2 137 j = μ 137 j := fun j q => by
      rw [hμ2, zu_a (by decide), zu_a (by decide), zu_a (by decide), zu_a (by decide), zcpm_o q, zu_a (by decide), x2 _ _ (by omega), k1 _ _ (by omega) (by omega) (by decide) (by decide) (by decide)]
    have y137i : ∀ k : Nat, k < n → μ2 137 (120 * W + k) = T k := fun k hk => by
      rw [hμ2, zu_a (by decide), zu_a (by decide), zu_a (by decide), zu_a (by decide), zcpm_in rfl (by omega) (by omega), zu_a (by decide), x2 _ _ (by omega), k1 _ _ (by omega) (by omega) (by decide) (by decide) (by decide), show (0 : Int) + (120 * W + k - 120 * W) = k by omega]
      exact h134 k hk
    clear hμ2
    refine ⟨W, μ1, μ2, ?_, refgo μ1 ξ r _ (fun j => k1 _ _ (by omega) (by omega) (by decide) (by decide) (by decide)) x1 x2 ?_, ?_, ?_, by omega⟩
    · have hn1 : (-1 : Int) < 0 := by decide
      rw [if_neg m1, if_neg m2, if_neg m3, if_pos hh.2, gq_5_3 hG, vq_21 hfull, if_pos rfl, gq_5_2 hG, vq_18 c1, zjn_ok, if_pos hn1, gq_5_3 hGu, gq_5_2 hGu, vq_21 ha]
      show zgf 10 2 5 ν _ = _
      rw [gq_5_2 hGν, vq_18 (hclr ν), hμ1]
    · rw [hξ, if_pos (by decide)]
      exact hr
    · refine ⟨by omega, by omega, by omega, fun k k0 k1 => by omega, fun k k0 k1 => by omega⟩
    · refine ⟨⟨by omega, by omega, by omega⟩, fun i i0 i1 => ?_⟩
      have hzi : zbL i = 26 + 2 * i := rfl
      by_cases hi : i = W
      · subst hi
        have c26 : ∀ a j : Int, a < 60 → a ≠ 18 → μ2 a j = ν a j := fun a j q q2 => (g2 a j (by omega) (by omega) (by omega) (by omega) (by omega)).trans (g1 a j q2)
        refine ⟨T, n, Ls, by omega, fun k hk => ⟨hpos k hk, y137i k hk⟩, ?_, e, ?_, c4, fun k c hk => ?_, ?_, ?_⟩
        · rw [y138, if_pos rfl]
        · rw [c26 _ _ (by omega) (by omega)]; exact v1
        · rw [c26 _ _ (by omega) (by omega)]; exact vr k c hk
        · rw [y135, if_pos rfl, c26 _ _ (by omega) (by omega), v2]
        · rw [y136, if_pos rfl, c26 _ _ (by omega) (by omega), v3]
      · have hiW : i < W := by omega
        have c26 : ∀ a j : Int, 26 ≤ a → a < 26 + 2 * W → μ2 a j = μ a j := fun a j q q2 => (g2 a j (by omega) (by omega) (by omega) (by omega) (by omega)).trans (k1 a j (by omega) (by omega) (by omega) (by omega) (by omega))
        refine zWd_o (w3 i i0 (by omega)) (fun k k0 k1 => y137 _ (by omega)) ?_ ?_ ?_ (fun j _ _ => c26 _ _ (by omega) (by omega)) (fun j => c26 _ _ (by omega) (by omega))
        · rw [y138, if_neg hi]
        · rw [y135, if_neg hi]
        · rw [y136, if_neg hi]
