/-! ===== heed: the codes of a text, names, what is scratch ===== -/
set_option maxHeartbeats 400000 in
theorem zln_ok {T : Nat → Int} {n a a' : Nat} {l : zLn} (ha : a ≤ n) (h : zln (zgn T n) a = .inr (a', l)) : zlnok l := by
  have hg := zgd_E (T := T) (zgd_O (T := T) (n := n) 6)
  obtain ⟨s1, s2⟩ := hg a ha
  unfold zln at h
  cases e : zpX (zgn T n) a with
  | inl g => rw [e] at h; cases h
  | inr q =>
    obtain ⟨b, cs⟩ := q
    obtain ⟨t1, t2, t3⟩ := s2 b cs e
    rw [e] at h
    dsimp only at h
    by_cases c : zgn T n b = 63
    · rw [if_pos c] at h
      have hlt := zgn_lt (T := T) (n := n) (a := b) (by omega)
      obtain ⟨r1, r2⟩ := hg (b + 1) (by omega)
      cases e2 : zpX (zgn T n) (b + 1) with
      | inl g => rw [e2] at h; cases h
      | inr q =>
        obtain ⟨b2, ds⟩ := q
        obtain ⟨w1, w2, w3⟩ := r2 b2 ds e2
        rw [e2] at h
        cases h
        exact ⟨t3, fun ds' hd => by cases hd; exact w3⟩
    · rw [if_neg c] at h
      cases h
      exact ⟨t3, fun ds' hd => by cases hd⟩
set_option maxHeartbeats 400000 in
theorem zls_ok {T : Nat → Int} {n : Nat} : ∀ (k a : Nat), a ≤ n → ∀ a' Ls, zls (zgn T n) k a = .inr (a', Ls) → ∀ l ∈ Ls, zlnok l
  | 0, a, ha, a', Ls, h => by cases h; exact fun l hl => absurd hl (by simp)
  | k + 1, a, ha, a', Ls, h => by
    rw [zls_S] at h
    by_cases c : zgn T n a = 59
    · rw [if_pos c] at h
      have haN := zgn_lt (T := T) (n := n) (a := a) (by omega)
      obtain ⟨x1, x2⟩ := zln_in (T := T) (n := n) (a := a + 1) (by omega)
      cases e : zln (zgn T n) (a + 1) with
      | inl g => rw [e] at h; cases h
      | inr q =>
        obtain ⟨b, l⟩ := q
        rw [e] at h
        dsimp only at h
        cases e2 : zls (zgn T n) k b with
        | inl g => rw [e2] at h; cases h
        | inr q =>
          obtain ⟨b2, Ms⟩ := q
          rw [e2] at h
          cases h
          intro l' hl
          rcases List.mem_cons.mp hl with rfl | hl
          · exact zln_ok (by omega) e
          · exact zls_ok k b (x2 b l e).2.2 _ _ e2 l' hl
    · rw [if_neg c] at h
      cases h
      exact fun l hl => absurd hl (by simp)
set_option maxHeartbeats 400000 in
theorem ztx_ok {T : Nat → Int} {n : Nat} {Ls : List zLn} (h : ztx (zgn T n) n = .inr Ls) : ∀ l ∈ Ls, zlnok l := by
  obtain ⟨x1, x2⟩ := zln_in (T := T) (n := n) (a := 0) (Nat.zero_le _)
  unfold ztx at h
  cases e : zln (zgn T n) 0 with
  | inl g' => rw [e] at h; cases h
  | inr q =>
    obtain ⟨a', l⟩ := q
    rw [e] at h
    dsimp only at h
    cases e2 : zls (zgn T n) 120 a' with
    | inl g' => rw [e2] at h; cases h
    | inr q =>
      obtain ⟨a'', Ms⟩ := q
      rw [e2] at h
      dsimp only at h
      by_cases c : a'' < n
      · rw [if_pos c] at h; cases h
      · rw [if_neg c] at h
        cases h
        intro l' hl
        rcases List.mem_cons.mp hl with rfl | hl
        · exact zln_ok (Nat.zero_le _) e
        · exact zls_ok 120 a' (x2 a' l e).2.2 _ _ e2 l' hl
/-! what a text gives hangs on the eight names only, and is one value -/
def zn8 (nm nm' : Int → Int) : Prop := ∀ k : Int, 0 ≤ k → k < 8 → nm k = nm' k
set_option maxHeartbeats 400000 in
theorem zx1_c {nm nm' : Int → Int} (h : zn8 nm nm') (c : Int) (S : List Int) : zx1 nm c S = zx1 nm' c S := by
  unfold zx1
  by_cases c1 : 0 ≤ znk (c - 10000)
  · rw [h _ c1 znk_8]
  · rw [if_neg c1, if_neg c1]
set_option maxHeartbeats 400000 in
theorem zex_c {nm nm' : Int → Int} (h : zn8 nm nm') : ∀ (cs S : List Int), zex nm cs S = zex nm' cs S
  | [], S => rfl
  | c :: cs, S => by
    show (zx1 nm c S).bind (zex nm cs) = (zx1 nm' c S).bind (zex nm' cs)
    rw [zx1_c h, funext (zex_c h cs)]
set_option maxHeartbeats 400000 in
theorem zvl_cg {nm nm' : Int → Int} (h : zn8 nm nm') {k : Nat} {cs : List Int} {v : Int} (g : zvl nm k cs v) : zvl nm' k cs v := fun S hS => (zex_c h cs S).symm.trans (g S hS)
set_option maxHeartbeats 400000 in
theorem zLc_c {nm nm' : Int → Int} (h : zn8 nm nm') {l : zLn} {x : Option Int} (g : zLc nm l x) : zLc nm' l x := by
  obtain ⟨c, g1, g2⟩ := g
  refine ⟨c, zvl_cg h g1, ?_⟩
  rcases g2 with g2 | ⟨ds, e, g2⟩
  · exact Or.inl g2
  · refine Or.inr ⟨ds, e, ?_⟩
    rcases g2 with ⟨a, r, b, d⟩ | g2
    · exact Or.inl ⟨a, r, b, zvl_cg h d⟩
    · exact Or.inr g2
set_option maxHeartbeats 400000 in
theorem zLw_c {nm nm' : Int → Int} (h : zn8 nm nm') {z : Int} : ∀ {Ls : List zLn} {r : Int}, zLw nm z Ls r → zLw nm' z Ls r
  | [], r, g => g
  | l :: Ls, r, g => by
    rcases g with g | ⟨g, g2⟩
    · exact Or.inl (zLc_c h g)
    · exact Or.inr ⟨zLc_c h g, zLw_c h g2⟩
set_option maxHeartbeats 400000 in
theorem zvl_f {nm : Int → Int} {cs : List Int} {v w : Int} (h : zvl nm 36 cs v) (g : zvl nm 36 cs w) : v = w := by
  have := (zvl_0 h).symm.trans (zvl_0 g)
  cases this
  rfl
set_option maxHeartbeats 400000 in
theorem zLc_f {nm : Int → Int} {l : zLn} {x y : Option Int} (h : zLc nm l x) (g : zLc nm l y) : x = y := by
  obtain ⟨c, h1, h2⟩ := h
  obtain ⟨d, g1, g2⟩ := g
  have e := zvl_f h1 g1
  subst e
  rcases h2 with ⟨a, b⟩ | ⟨ds, a, b⟩ <;> rcases g2 with ⟨a2, b2⟩ | ⟨ds2, a2, b2⟩
  · rw [b, b2]
  · rw [a] at a2; cases a2
  · rw [a] at a2; cases a2
  · rw [a] at a2
    cases a2
    rcases b with ⟨z, r, b, d⟩ | ⟨z, b⟩ <;> rcases b2 with ⟨z2, r2, b2, d2⟩ | ⟨z2, b2⟩
    · rw [b, b2, zvl_f d d2]
    · exact absurd z2 z
    · exact absurd z z2
    · rw [b, b2]
set_option maxHeartbeats 400000 in
theorem zLw_f {nm : Int → Int} {z : Int} : ∀ {Ls : List zLn} {r r' : Int}, zLw nm z Ls r → zLw nm z Ls r' → r = r'
  | [], r, r', h, g => Eq.trans h (Eq.symm g)
  | l :: Ls, r, r', h, g => by
    rcases h with h | ⟨h, h2⟩ <;> rcases g with g | ⟨g, g2⟩
    · have := zLc_f h g
      cases this
      rfl
    · cases zLc_f h g
    · cases zLc_f h g
    · exact zLw_f h2 g2
/-- agreement but for what heeding uses up -/
def zsc (μ u : zMem) : Prop := ∀ a j : Int, ¬ (a = 23 ∧ j = 3) → a ≠ 24 → a ≠ 25 → ¬ (a = 129 ∧ 14 ≤ j ∧ j ≤ 18) → a ≠ 139 → u a j = μ a j
set_option maxHeartbeats 400000 in
theorem zsc_r {μ : zMem} : zsc μ μ := fun _ _ _ _ _ _ _ => rfl
set_option maxHeartbeats 400000 in
theorem zsc_t {μ u v : zMem} (h : zsc μ u) (g : zsc u v) : zsc μ v := fun a j x y z p q => (g a j x y z p q).trans (h a j x y z p q)
set_option maxHeartbeats 400000 in
theorem zsc_s {μ u : zMem} (h : zsc μ u) : zsc u μ := fun a j x y z p q => (h a j x y z p q).symm
set_option maxHeartbeats 400000 in
theorem zsc_W {μ u : zMem} (h : zoW μ u) : zsc μ u := fun a j x _ z _ _ => h a j x z
set_option maxHeartbeats 400000 in
theorem zsc_U {μ u : zMem} (h : zoU μ u) : zsc μ u := fun a j _ _ _ p _ => h a j p
set_option maxHeartbeats 400000 in
theorem zsc_24 {μ u : zMem} (h : zsc μ u) {k v : Int} : zsc μ (zupd u 24 k v) := fun a j x y z p q => (zu_a y).trans (h a j x y z p q)
set_option maxHeartbeats 400000 in
theorem zsc_3 {μ u : zMem} (h : zsc μ u) {v : Int} : zsc μ (zupd u 23 3 v) := fun a j x y z p q => by
  refine Eq.trans ?_ (h a j x y z p q)
  unfold zupd
  rw [if_neg x]
set_option maxHeartbeats 400000 in
theorem zsc_139 {μ u : zMem} (h : zsc μ u) {k v : Int} : zsc μ (zupd u 139 k v) := fun a j x y z p q => (zu_a q).trans (h a j x y z p q)
set_option maxHeartbeats 400000 in
theorem zsc_k {μ u : zMem} (h : zsc μ u) (a j : Int) (hn : ztag a j ∉ [701, 702, 703, 1114, 1115, 1116, 1117, 1118, 1119]) : u a j = μ a j := by
  refine h a j (fun q => ?_) (fun q => ?_) (fun q => ?_) (fun q => ?_) (fun q => ?_)
  · obtain ⟨rfl, rfl⟩ := q
    exact hn (by decide)
  · subst q
    exact hn (by rw [tg_24]; decide)
  · subst q
    exact hn (by rw [tg_25]; decide)
  · obtain ⟨rfl, q1, q2⟩ := q
    have hj : j = 14 ∨ j = 15 ∨ j = 16 ∨ j = 17 ∨ j = 18 := by omega
    rcases hj with rfl | rfl | rfl | rfl | rfl <;> exact hn (by decide)
  · subst q
    exact hn (by rw [tg_139]; decide)
set_option maxHeartbeats 400000 in
theorem zsc_G0 {μ u : zMem} (h : zsc μ u) (hG : zG0 μ) : zG0 u := zG0_keep hG (fun a j hr => by
  refine h a j (fun q => ?_) (fun q => ?_) (fun q => ?_) (fun q => ?_) (fun q => ?_)
  · obtain ⟨rfl, rfl⟩ := q
    exact absurd hr (by decide)
  · subst q
    exact absurd hr (by rw [show zrfs 24 j = false from rfl]; decide)
  · subst q
    exact absurd hr (by rw [show zrfs 25 j = false from rfl]; decide)
  · obtain ⟨rfl, q1, q2⟩ := q
    have hj : j = 14 ∨ j = 15 ∨ j = 16 ∨ j = 17 ∨ j = 18 := by omega
    rcases hj with rfl | rfl | rfl | rfl | rfl <;> exact absurd hr (by decide)
  · subst q
    exact absurd hr (by rw [show zrfs 139 j = false from rfl]; decide))
set_option maxHeartbeats 400000 in
theorem zsc_GS {μ u : zMem} (h : zsc μ u) (hS : zGS μ) : zGS u := zGS_keep hS (fun a j q => zsc_k h a j (fun p => by
  revert q p
  generalize ztag a j = t
  intro q p
  simp only [List.mem_cons, List.not_mem_nil, or_false] at q p
  omega))
set_option maxHeartbeats 400000 in
theorem zsc_GW {μ u : zMem} (h : zsc μ u) (hW : zGW μ) : zGW u := zGW_keep hW (fun a j q => zsc_k h a j (fun p => by
  revert q p
  generalize ztag a j = t
  intro q p
  simp only [List.mem_cons, List.not_mem_nil, or_false] at q p
  omega))
