/-! ===== take ===== -/
abbrev zss (a j : Int) : Prop := (a = 23 ∧ j = 3) ∨ a = 24 ∨ a = 25 ∨ (a = 129 ∧ 14 ≤ j ∧ j ≤ 18) ∨ a = 139
set_option maxHeartbeats 400000 in
theorem zsc_at {μ u : zMem} (h : zsc μ u) {a j : Int} (n : ¬ zss a j) : u a j = μ a j := h a j (by omega) (by omega) (by omega) (by omega) (by omega)
set_option maxHeartbeats 400000 in
theorem zsc_of {μ u : zMem} (h : ∀ a j : Int, ¬ zss a j → u a j = μ a j) : zsc μ u := fun a j x y z p q => h a j (by omega)
/-- scratch as it was -/
def zrs (μ u : zMem) : zMem := fun a j => if zss a j then μ a j else u a j
set_option maxHeartbeats 400000 in
theorem zrs_y {μ u : zMem} {a j : Int} (h : zss a j) : zrs μ u a j = μ a j := if_pos h
set_option maxHeartbeats 400000 in
theorem zrs_n {μ u : zMem} {a j : Int} (h : ¬ zss a j) : zrs μ u a j = u a j := if_neg h
set_option maxHeartbeats 400000 in
theorem zrs_sc {μ u : zMem} : zsc (zrs μ u) u := zsc_of (fun a j h => (zrs_n h).symm)
/-- agreement on what heed reads -/
def zsd (μ u : zMem) : Prop := (∀ a j : Int, 5 ≤ a → a < 34 → ¬ zss a j → u a j = μ a j) ∧ ∀ a j : Int, 130 ≤ a → a ≤ 138 → u a j = μ a j
set_option maxHeartbeats 400000 in
theorem znv_d {μ u : zMem} (h : zsd μ u) {w s k : Int} (w0 : 0 ≤ w) (w1 : w < 4) : znv u w s k = znv μ w s k := by
  have hz : zbL w = 26 + 2 * w := rfl
  have e8 : ∀ j, u 8 j = μ 8 j := fun j => h.1 _ _ (by omega) (by omega) (by omega)
  have e9 : ∀ j, u 9 j = μ 9 j := fun j => h.1 _ _ (by omega) (by omega) (by omega)
  have e10 : ∀ j, u 10 j = μ 10 j := fun j => h.1 _ _ (by omega) (by omega) (by omega)
  have e11 : u 11 = μ 11 := funext (fun j => h.1 _ _ (by omega) (by omega) (by omega))
  have eo : zon u s = zon μ s := funext (fun j => by unfold zon; rw [e10, e10])
  have e2 : u (zbL w) 2 = μ (zbL w) 2 := h.1 _ _ (by omega) (by omega) (by omega)
  unfold znv
  rw [e8, e9, e10, e11, e2, eo]
set_option maxHeartbeats 400000 in
theorem zheed3 {μ : zMem} (hG : zG0 μ) (hS : zGS μ) (hW : zGW μ) {w s : Int} (w0 : 0 ≤ w) (wW : w < μ 21 3) (h0 : 0 ≤ s) (h1 : s < μ 6 1) : ∃ h : Int, (0 ≤ h ∧ h ≤ 100) ∧ ∀ u, zsd μ u → zG0 u → zGS u → (∃ u', fX3_heedOf 21 w s u = some (h, u') ∧ zsc u u') ∧ (∃ u', fX11_heedOf 129 w s u = some (h, u') ∧ zsc u u') := by
  have w1 : w < 4 := by
    have := hW.1
    omega
  have hz : zbL w = 26 + 2 * w := rfl
  obtain ⟨T, n, Ls, x1, x2, x3, x4, x5, x6, x7, x8, -⟩ := hW.2 w w0 wW
  have hok := ztx_ok x4
  obtain ⟨r, u0, -, -, y3⟩ := s11_heedOf hG hS w0 w1 h0 h1 x1 x2 x3 x4 x8
  refine ⟨zhc r, zhc_in r, fun u hu hGu hSu => ⟨?_, ?_⟩⟩
  · have hW2 := (hu.1 21 3 (by omega) (by omega) (by omega)).symm
    have h62 := (hu.1 6 1 (by omega) (by omega) (by omega)).symm
    have hC : zcv u w (zfl Ls) := ⟨(hu.1 _ _ (by omega) (by omega) (by omega)).trans x5, x6, fun k c hk => (hu.1 _ _ (by omega) (by omega) (by omega)).trans (x7 k c hk)⟩
    obtain ⟨u', p1, p2⟩ := s3_heedOf hGu hSu w0 w1 (by omega) h0 (by omega) hC hok (r := r) (zLw_c (fun k _ _ => (znv_d hu w0 w1).symm) y3)
    exact ⟨u', p1, p2⟩
  · have h62 := (hu.1 6 1 (by omega) (by omega) (by omega)).symm
    have e8 : u 135 w = u (zbL w) 2 := by
      rw [hu.2 _ _ (by omega) (by omega), hu.1 _ _ (by omega) (by omega) (by omega)]
      exact x8
    obtain ⟨r', u', p1, p2, p3⟩ := s11_heedOf hGu hSu w0 w1 h0 (by omega) x1 (fun k hk => ⟨(x2 k hk).1, (hu.2 _ _ (by omega) (by omega)).trans (x2 k hk).2⟩) ((hu.2 _ _ (by omega) (by omega)).trans x3) x4 e8
    have hr : r' = r := zLw_f p3 (zLw_c (fun k _ _ => (znv_d hu w0 w1).symm) y3)
    rw [hr] at p1
    exact ⟨u', p1, p2⟩
def zhs (μ : zMem) (w : Int) (H : Int → Int) : Prop := (∀ s, 0 ≤ H s ∧ H s ≤ 100) ∧ ∀ s : Int, 0 ≤ s → s < μ 6 1 → ∀ u, zsd μ u → zG0 u → zGS u → (∃ u', fX3_heedOf 21 w s u = some (H s, u') ∧ zsc u u') ∧ (∃ u', fX11_heedOf 129 w s u = some (H s, u') ∧ zsc u u')
set_option maxHeartbeats 400000 in
theorem zheed4 {μ : zMem} (hG : zG0 μ) (hS : zGS μ) (hW : zGW μ) {w : Int} (w0 : 0 ≤ w) (wW : w < μ 21 3) : ∃ H, zhs μ w H := by
  have key : ∀ s : Int, ∃ h : Int, (0 ≤ h ∧ h ≤ 100) ∧ (0 ≤ s → s < μ 6 1 → ∀ u, zsd μ u → zG0 u → zGS u → (∃ u', fX3_heedOf 21 w s u = some (h, u') ∧ zsc u u') ∧ (∃ u', fX11_heedOf 129 w s u = some (h, u') ∧ zsc u u')) := fun s => by
    by_cases c : 0 ≤ s ∧ s < μ 6 1
    · obtain ⟨h, a, b⟩ := zheed3 hG hS hW w0 wW c.1 c.2
      exact ⟨h, a, fun _ _ => b⟩
    · exact ⟨0, by decide, fun a b => absurd ⟨a, b⟩ c⟩
  exact ⟨fun s => Classical.choose (key s), fun s => (Classical.choose_spec (key s)).1, fun s => (Classical.choose_spec (key s)).2⟩
set_option maxHeartbeats 400000 in
theorem zGS_d {μ u : zMem} (hS : zGS μ) (h : zsd μ u) (h6 : u 129 6 = μ 129 6) : zGS u := by
  obtain ⟨s0, s1, s2, s3, s4⟩ := hS
  have e6 : u 6 1 = μ 6 1 := h.1 _ _ (by omega) (by omega) (by omega)
  refine ⟨by omega, by omega, by omega, fun w i w0 w1 i0 i1 => ?_, fun w i w0 w1 i0 i1 => ?_⟩
  · rw [h.2 _ _ (by omega) (by omega), h.1 (8 + w) _ (by omega) (by omega) (by omega)]
    exact s3 w i w0 w1 i0 i1
  · rw [h.1 (8 + w) _ (by omega) (by omega) (by omega)]
    exact s4 w i w0 w1 i0 (by omega)
/-! ### what may change while a paper is taken -/
def zoX (p : Int) (μ u : zMem) : Prop := ∀ a j : Int, ¬ zss a j → ¬ (a = zbP p ∧ j = 1) → ¬ (zbP p + 2 ≤ a ∧ a ≤ zbP p + 5) → u a j = μ a j
def zoQ (p : Int) (μ u : zMem) : Prop := ∀ a j : Int, ¬ zss a j → ¬ (a = 141 ∧ j = p) → ¬ (142 ≤ a ∧ a ≤ 145 ∧ 16 * p ≤ j ∧ j < 16 * p + 16) → u a j = μ a j
set_option maxHeartbeats 400000 in
theorem zoX_r {p : Int} {μ : zMem} : zoX p μ μ := fun _ _ _ _ _ => rfl
set_option maxHeartbeats 400000 in
theorem zoQ_r {p : Int} {μ : zMem} : zoQ p μ μ := fun _ _ _ _ _ => rfl
set_option maxHeartbeats 400000 in
theorem zoX_t {p : Int} {μ u v : zMem} (h : zoX p μ u) (g : zoX p u v) : zoX p μ v := fun a j x y z => (g a j x y z).trans (h a j x y z)
set_option maxHeartbeats 400000 in
theorem zoQ_t {p : Int} {μ u v : zMem} (h : zoQ p μ u) (g : zoQ p u v) : zoQ p μ v := fun a j x y z => (g a j x y z).trans (h a j x y z)
set_option maxHeartbeats 400000 in
theorem zoX_s {p : Int} {μ u : zMem} (h : zsc μ u) : zoX p μ u := fun _ _ x _ _ => zsc_at h x
set_option maxHeartbeats 400000 in
theorem zoQ_s {p : Int} {μ u : zMem} (h : zsc μ u) : zoQ p μ u := fun _ _ x _ _ => zsc_at h x
set_option maxHeartbeats 400000 in
theorem zoX_C {p : Int} {μ u : zMem} (h : zoC p μ u) : zoX p μ u := fun a j _ y z => h a j y z
set_option maxHeartbeats 400000 in
theorem zoQ_R {p : Int} {μ u : zMem} (h : zoR p μ u) : zoQ p μ u := fun a j _ y z => h a j y z
set_option maxHeartbeats 400000 in
theorem zoX_rs {p : Int} {μ u : zMem} (h : zoX p μ u) : zoC p μ (zrs μ u) := fun a j y z => by
  by_cases c : zss a j
  · exact zrs_y c
  · rw [zrs_n c]
    exact h a j c y z
set_option maxHeartbeats 400000 in
theorem zoQ_rs {p : Int} {μ u : zMem} (h : zoQ p μ u) : zoR p μ (zrs μ u) := fun a j y z => by
  by_cases c : zss a j
  · exact zrs_y c
  · rw [zrs_n c]
    exact h a j c y z
set_option maxHeartbeats 400000 in
theorem zoX_G0 {p : Int} {μ u : zMem} (h0 : 0 ≤ p) (h1 : p < 10) (h : zoX p μ u) (hG : zG0 μ) : zG0 u := zsc_G0 zrs_sc (zoC_G0 h0 h1 (zoX_rs h) hG)
set_option maxHeartbeats 400000 in
theorem zoQ_G0 {p : Int} {μ u : zMem} (h : zoQ p μ u) (hG : zG0 μ) : zG0 u := zsc_G0 zrs_sc (zoR_G0 (zoQ_rs h) hG)
set_option maxHeartbeats 400000 in
theorem zoX_d {p : Int} {μ u : zMem} (h0 : 0 ≤ p) (h1 : p < 10) (h : zoX p μ u) : zsd μ u := by
  have hz : zbP p = 53 + 6 * p := rfl
  exact ⟨fun a j x y n => h a j n (by omega) (by omega), fun a j x y => h a j (by omega) (by omega) (by omega)⟩
set_option maxHeartbeats 400000 in
theorem zoQ_d {p : Int} {μ u : zMem} (h : zoQ p μ u) : zsd μ u := ⟨fun a j x y n => h a j n (by omega) (by omega), fun a j x y => h a j (by omega) (by omega) (by omega)⟩
set_option maxHeartbeats 400000 in
theorem zsd_t {μ u v : zMem} (h : zsd μ u) (g : zsd u v) : zsd μ v := ⟨fun a j x y z => (g.1 a j x y z).trans (h.1 a j x y z), fun a j x y => (g.2 a j x y).trans (h.2 a j x y)⟩
set_option maxHeartbeats 400000 in
theorem zpC_s {u v : zMem} {p : Int} {L : List zEn} (h0 : 0 ≤ p) (h1 : p < 10) (h : zpC u p L) (g : zsc u v) : zpC v p L := by
  have hz : zbP p = 53 + 6 * p := rfl
  refine ⟨(zsc_at g (by omega)).trans h.1, zrow_to h.2 (fun k _ => ⟨zsc_at g (by omega), zsc_at g (by omega), zsc_at g (by omega), zsc_at g (by omega)⟩)⟩
set_option maxHeartbeats 400000 in
theorem zpR_s {u v : zMem} {p : Int} {L : List zEn} (h : zpR u p L) (g : zsc u v) : zpR v p L := by
  refine ⟨(zsc_at g (by omega)).trans h.1, zrow_to h.2 (fun k _ => ⟨zsc_at g (by omega), zsc_at g (by omega), zsc_at g (by omega), zsc_at g (by omega)⟩)⟩
/-! ### the habits -/
def zf1 (w o : Int → Int) (hb : Int) (L : List zEn) : List zEn := if zand hb 1 = 0 then L else zjC w o L
def zf2 (hb : Int) (L : List zEn) : List zEn := if zand hb 2 = 0 then L else L.map zSo
def zf3 (hb : Int) (L : List zEn) : List zEn := if zand hb 4 = 0 then L else (zdn L L.length).1
set_option maxHeartbeats 400000 in
theorem zf2_ok {N hb : Int} {L : List zEn} (h : zlok N L) : zlok N (zf2 hb L) := by
  unfold zf2
  split
  · exact h
  · exact zlok_So h
set_option maxHeartbeats 400000 in
theorem zf3_ok {N hb : Int} {L : List zEn} (h : zlok N L) : zlok N (zf3 hb L) := by
  unfold zf3
  split
  · exact h
  · exact (zdn_ok h L.length (Nat.le_refl _)).1
set_option maxHeartbeats 400000 in
theorem s4_habit {u : zMem} {w b hb : Int} (w0 : 0 ≤ w) (w1 : w < 4) (h : u (zbL w) 3 = hb) : fX4_has (zbL w) b u = some (if zand hb b = 0 then 0 else 1, u) := by
  unfold fX4_has
  rw [gfL w0 w1, show ((3 : Nat) : Int) = 3 from rfl, h]
  by_cases c : zand hb b = 0
  · rw [if_pos c, if_pos c, zbl_0]
  · rw [if_neg c, if_neg c, zbl_1]
set_option maxHeartbeats 400000 in
theorem c_follow {u0 : zMem} (hG : zG0 u0) {p w : Int} (h0 : 0 ≤ p) (h1 : p < 10) (w0 : 0 ≤ w) (w1 : w < 4) {L : List zEn} (hC : zpC u0 p L) {N hb : Int} (hN : u0 6 1 = N) (hN16 : N ≤ 16) (hok : zlk N L) {wf of : Int → Int} (hw : ∀ i, u0 8 i = wf i) (ho : ∀ i, u0 10 i = of i) (hhb : u0 (zbL w) 3 = hb) : ∃ u', fX6_follow (zbP p) (zbL w) 6 u0 = some (0, u') ∧ zpC u' p (zf3 hb (zf2 hb (zf1 wf of hb L))) ∧ zoC p u0 u' ∧ zlok N (zf3 hb (zf2 hb (zf1 wf of hb L))) := by
  have hz : zbP p = 53 + 6 * p := rfl
  have hzL : zbL w = 26 + 2 * w := rfl
  have s1 : ∃ u1, (∀ K : zMem → zRs, zvc 4 (zbL w) (fX4_has (zbL w) 1 u0) (fun v1 u2 => zjn K (fun k4 => if v1 = 0 then (k4 u2) else (zvc 6 (zbP p) (fX6_join (zbP p) 6 u2) (fun _ u13 => k4 u13)))) = K u1) ∧ zpC u1 p (zf1 wf of hb L) ∧ zoC p u0 u1 ∧ zlok N (zf1 wf of hb L) := by
    have e := s4_habit (b := 1) w0 w1 hhb
    unfold zf1
    by_cases c : zand hb 1 = 0
    · rw [if_pos c] at e
      refine ⟨u0, fun K => ?_, ?_, zoC_r, ?_⟩
      · rw [vcL_of w0 w1 e, zjn_ok, if_pos rfl]
      · rw [if_pos c]; exact hC
      · rw [if_pos c]; exact zlk_ok hok
    · rw [if_neg c] at e
      obtain ⟨u1, a1, a2, a3, a4⟩ := c_join hG h0 h1 hC hN hN16 hok hw ho
      refine ⟨u1, fun K => ?_, ?_, a3, ?_⟩
      · rw [vcL_of w0 w1 e, zjn_ok, if_neg (by decide), vcP_of h0 h1 a1]
      · rw [if_neg c]; exact a2
      · rw [if_neg c]; exact zlk_ok a4
  obtain ⟨u1, a1, a2, a3, a4⟩ := s1
  have hG1 := zoC_G0 h0 h1 a3 hG
  have hhb1 : u1 (zbL w) 3 = hb := (a3 _ _ (by omega) (by omega)).trans hhb
  have s2 : ∃ u2, (∀ K : zMem → zRs, zvc 4 (zbL w) (fX4_has (zbL w) 2 u1) (fun v1 u2 => zjn K (fun k4 => if v1 = 0 then (k4 u2) else (zvc 6 (zbP p) (fX6_soften (zbP p) u2) (fun _ u13 => k4 u13)))) = K u2) ∧ zpC u2 p (zf2 hb (zf1 wf of hb L)) ∧ zoC p u1 u2 := by
    have e := s4_habit (b := 2) w0 w1 hhb1
    unfold zf2
    by_cases c : zand hb 2 = 0
    · rw [if_pos c] at e
      refine ⟨u1, fun K => ?_, ?_, zoC_r⟩
      · rw [vcL_of w0 w1 e, zjn_ok, if_pos rfl]
      · rw [if_pos c]; exact a2
    · rw [if_neg c] at e
      obtain ⟨u2, b1, b2, b3⟩ := c_soften hG1 h0 h1 a2 a4.1
      refine ⟨u2, fun K => ?_, ?_, b3⟩
      · rw [vcL_of w0 w1 e, zjn_ok, if_neg (by decide), vcP_of h0 h1 b1]
      · rw [if_neg c]; exact b2
  obtain ⟨u2, b1, b2, b3⟩ := s2
  have b4 := zf2_ok (hb := hb) a4
  have hG2 := zoC_G0 h0 h1 b3 hG1
  have hhb2 : u2 (zbL w) 3 = hb := (b3 _ _ (by omega) (by omega)).trans hhb1
  have s3 : ∃ u3, zvc 4 (zbL w) (fX4_has (zbL w) 4 u2) (fun v9 u10 => if v9 = 0 then (some (0, u10)) else (zvc 6 (zbP p) (fX6_decisionsLast (zbP p) u10) (fun _ u11 => some (0, u11)))) = some (0, u3) ∧ zpC u3 p (zf3 hb (zf2 hb (zf1 wf of hb L))) ∧ zoC p u2 u3 := by
    have e := s4_habit (b := 4) w0 w1 hhb2
    unfold zf3
    by_cases c : zand hb 4 = 0
    · rw [if_pos c] at e
      refine ⟨u2, ?_, ?_, zoC_r⟩
      · rw [vcL_of w0 w1 e, if_pos rfl]
      · rw [if_pos c]; exact b2
    · rw [if_neg c] at e
      obtain ⟨u3, c1, c2, c3⟩ := c_last hG2 h0 h1 b2 b4
      refine ⟨u3, ?_, ?_, c3⟩
      · rw [vcL_of w0 w1 e, if_neg (by decide), vcP_of h0 h1 c1]
      · rw [if_neg c]; exact c2
  obtain ⟨u3, c1, c2, c3⟩ := s3
  refine ⟨u3, ?_, c2, zoC_t a3 (zoC_t b3 c3), zf3_ok b4⟩
  unfold fX6_follow
  exact (a1 _).trans ((b1 _).trans c1)
set_option maxHeartbeats 400000 in
theorem r_follow {u0 : zMem} (hG : zG0 u0) {p w : Int} (h0 : 0 ≤ p) (h1 : p < 10) (w0 : 0 ≤ w) (w1 : w < 4) {L : List zEn} (hR : zpR u0 p L) {N hb : Int} (hN16 : N ≤ 16) (hok : zlk N L) {wf of : Int → Int} (hw : ∀ i, 0 ≤ i → i < N → u0 130 i = wf i) (ho : ∀ i, 0 ≤ i → i < N → u0 130 (32 + i) = of i) (hhb : u0 136 w = hb) (hok1 : zlok N (zf1 wf of hb L)) : ∃ u', (zgf 11 11 129 u0 (fun v16 => zald 20 v16 w u0 (fun v17 => zjn (fun (u18 : zMem) => zgf 11 11 129 u18 (fun v20 => zald 20 v20 w u18 (fun v21 => zjn (fun (u22 : zMem) => zgf 11 11 129 u22 (fun v24 => zald 20 v24 w u22 (fun v25 => if (zand v25 4) = 0 then (some (p, u22)) else (zvc 11 129 (fX11_putsLast 129 p u22) (fun _ u26 => some (p, u26)))))) (fun k23 => if (zand v21 2) = 0 then (k23 u18) else (zvc 11 129 (fX11_softensAll 129 p u18) (fun _ u27 => k23 u27)))))) (fun k19 => if (zand v17 1) = 0 then (k19 u0) else (zvc 11 129 (fX11_joinsAll 129 p u0) (fun _ u28 => k19 u28)))))) = some (p, u') ∧ zpR u' p (zf3 hb (zf2 hb (zf1 wf of hb L))) ∧ zoR p u0 u' := by
  have s1 : ∃ u1, (∀ K : zMem → zRs, zgf 11 11 129 u0 (fun v16 => zald 20 v16 w u0 (fun v17 => zjn K (fun k19 => if (zand v17 1) = 0 then (k19 u0) else (zvc 11 129 (fX11_joinsAll 129 p u0) (fun _ u28 => k19 u28))))) = K u1) ∧ zpR u1 p (zf1 wf of hb L) ∧ zoR p u0 u1 := by
    unfold zf1
    by_cases c : zand hb 1 = 0
    · refine ⟨u0, fun K => ?_, ?_, zoR_r⟩
      · rw [gq_129_11 hG, al_136 w0 w1, hhb, zjn_ok, if_pos c]
      · rw [if_pos c]; exact hR
    · obtain ⟨u1, a1, a2, a3⟩ := r_join hG h0 h1 hR hN16 hok hw ho
      refine ⟨u1, fun K => ?_, ?_, a3⟩
      · rw [gq_129_11 hG, al_136 w0 w1, hhb, zjn_ok, if_neg c, vq_129 a1]
      · rw [if_neg c]; exact a2
  obtain ⟨u1, a1, a2, a3⟩ := s1
  have hG1 := zoR_G0 a3 hG
  have hhb1 : u1 136 w = hb := (a3 _ _ (by omega) (by omega)).trans hhb
  have s2 : ∃ u2, (∀ K : zMem → zRs, zgf 11 11 129 u1 (fun v20 => zald 20 v20 w u1 (fun v21 => zjn K (fun k23 => if (zand v21 2) = 0 then (k23 u1) else (zvc 11 129 (fX11_softensAll 129 p u1) (fun _ u27 => k23 u27))))) = K u2) ∧ zpR u2 p (zf2 hb (zf1 wf of hb L)) ∧ zoR p u1 u2 := by
    unfold zf2
    by_cases c : zand hb 2 = 0
    · refine ⟨u1, fun K => ?_, ?_, zoR_r⟩
      · rw [gq_129_11 hG1, al_136 w0 w1, hhb1, zjn_ok, if_pos c]
      · rw [if_pos c]; exact a2
    · obtain ⟨u2, b1, b2, b3⟩ := r_soften hG1 h0 h1 a2 hok1.1
      refine ⟨u2, fun K => ?_, ?_, b3⟩
      · rw [gq_129_11 hG1, al_136 w0 w1, hhb1, zjn_ok, if_neg c, vq_129 b1]
      · rw [if_neg c]; exact b2
  obtain ⟨u2, b1, b2, b3⟩ := s2
  have b4 := zf2_ok (hb := hb) hok1
  have hG2 := zoR_G0 b3 hG1
  have hhb2 : u2 136 w = hb := (b3 _ _ (by omega) (by omega)).trans hhb1
  have s3 : ∃ u3, zgf 11 11 129 u2 (fun v24 => zald 20 v24 w u2 (fun v25 => if (zand v25 4) = 0 then (some (p, u2)) else (zvc 11 129 (fX11_putsLast 129 p u2) (fun _ u26 => some (p, u26))))) = some (p, u3) ∧ zpR u3 p (zf3 hb (zf2 hb (zf1 wf of hb L))) ∧ zoR p u2 u3 := by
    unfold zf3
    by_cases c : zand hb 4 = 0
    · refine ⟨u2, ?_, ?_, zoR_r⟩
      · rw [gq_129_11 hG2, al_136 w0 w1, hhb2, if_pos c]
      · rw [if_pos c]; exact b2
    · obtain ⟨u3, c1, c2, c3⟩ := r_last hG2 h0 h1 b2 b4
      refine ⟨u3, ?_, ?_, c3⟩
      · rw [gq_129_11 hG2, al_136 w0 w1, hhb2, if_neg c, vq_129 c1]
      · rw [if_neg c]; exact c2
  obtain ⟨u3, c1, c2, c3⟩ := s3
  refine ⟨u3, ?_, c2, zoR_t a3 (zoR_t b3 c3)⟩
  exact (a1 _).trans ((b1 _).trans c1)
