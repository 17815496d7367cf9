/-! ===== the reference reads a text: operands, levels ===== -/
def zJ5 (E O : zMem → zRs) (c : Int) (u4 : zMem) : zRs := zgf 11 18 129 u4 (fun v6 => if v6 ≠ 6 then (zgf 11 18 129 u4 (fun v7 => zpf 11 18 129 (zw32 (v7 + 1)) u4 (fun u8 => zgf 11 15 129 u8 (fun v9 => zpf 11 15 129 (zw32 (v9 + 1)) u8 (fun u10 => zjn (fun (v11 : Int) (u12 : zMem) => zjn (fun (u14 : zMem) => zgf 11 18 129 u14 (fun v16 => zpf 11 18 129 (zw32 (v16 - 1)) u14 (fun u17 => if c ≠ 40 then (if c ≠ 45 then (if v11 ≠ 0 then (some (0, u17)) else (some (1, u17))) else (some ((zw32 (-v11)), u17))) else (some (v11, u17))))) (fun k15 => if c ≠ 40 then (k15 u12) else (zvc 11 129 (fX11_takes 129 41 u12) (fun v18 u19 => if v18 ≠ 0 then (k15 u19) else (zvc 11 129 (fX11_wrong 129 u19) (fun v20 u21 => some (v20, u21))))))) (fun k13 => if c ≠ 40 then (zvc 11 129 (O u10) (fun v22 u23 => k13 v22 u23)) else (zvc 11 129 (E u10) (fun v24 u25 => k13 v24 u25)))))))) else (zvc 11 129 (fX11_wrong 129 u4) (fun v26 u27 => some (v26, u27))))
def zNB (k33 : Int → Int → zMem → zRs) (v30 : Int) (v31 : Int) (u32 : zMem) : zRs := zjn (fun (u34 : zMem) => if v31 ≠ 0 then (some (v30, u34)) else (zvc 11 129 (fX11_wrong 129 u34) (fun v36 u37 => some (v36, u37)))) (fun k35 => if v31 ≥ 4 then (k35 u32) else (zvc 11 129 (fX11_byteAt 129 u32) (fun v38 u39 => if v38 < 48 then (k35 u39) else (zvc 11 129 (fX11_byteAt 129 u39) (fun v40 u41 => if v40 > 57 then (k35 u41) else (zvc 11 129 (fX11_byteAt 129 u41) (fun v42 u43 => zgf 11 15 129 u43 (fun v44 => zpf 11 15 129 (zw32 (v44 + 1)) u43 (fun u45 => k33 (zw32 ((zw32 ((zw32 (10 * v30)) + v42)) - 48)) (zw32 (v31 + 1)) u45)))))))))
set_option maxHeartbeats 400000 in
theorem v_bump {u : zMem} {a : Nat} {o : Int} (ha : u 129 15 = a) (ha2 : a ≤ 200) (ho : u 129 18 = o) (o0 : 0 ≤ o) (o6 : o < 6) : ∀ K : zMem → zRs, zgf 11 18 129 u (fun v7 => zpf 11 18 129 (zw32 (v7 + 1)) u (fun u8 => zgf 11 15 129 u8 (fun v9 => zpf 11 15 129 (zw32 (v9 + 1)) u8 K))) = K (zupd (zupd u 129 18 (o + 1)) 129 15 ((a + 1 : Nat) : Int)) := fun K => by
  have e1 : zw32 (o + 1) = o + 1 := zw32_id (by omega) (by omega)
  have e2 : zupd u 129 18 (o + 1) 129 15 = a := (zu_j (by decide)).trans ha
  rw [gf_129, show ((18 : Nat) : Int) = 18 from rfl, ho, e1, pf_129, show ((18 : Nat) : Int) = 18 from rfl, gf_129, show ((15 : Nat) : Int) = 15 from rfl, e2, zupn (by omega), pf_129]
  rfl
set_option maxHeartbeats 400000 in
theorem v_J5 {μ : zMem} {T : Nat → Int} {n d h : Nat} {nm : Int → Int} {E O : Nat → zRp} {XE XO : zMem → zRs} (H : zTr μ T n) (o : Int) (ho6 : o + ((d + 1 : Nat) : Int) = 6) (o0 : 0 ≤ o) (h1 : 1 ≤ h) (gE : zgd n E) (gO : zgd n O) (hE : zRI μ n nm h (o + 1) E XE) (hO : zRI μ n nm h (o + 1) O XO)
    {u : zMem} {a : Nat} {c : Int} (hu : zoV μ u) (ha : u 129 15 = a) (hf : u 129 17 = -1) (ho : u 129 18 = o) (hc : c = zgn T n a) (hc3 : c = 40 ∨ c = 33 ∨ c = 45) (ha2 : a ≤ n) (hdg : ¬ zdig (zgn T n a) = true) (hnk : ¬ 0 ≤ znk (zgn T n a)) :
    (∀ g, zod (d + 1) E O (zgn T n) a = .inl g → zRl μ n (zJ5 XE XO c) g u) ∧ ∀ a' cs, zod (d + 1) E O (zgn T n) a = .inr (a', cs) → zRr μ (zvl nm h cs) (zJ5 XE XO c) a' o u := by
  have h120 := H.2.2.1
  have haN := zgn_lt (T := T) (n := n) (a := a) (by omega)
  have hb := v_bump ha (by omega) ho o0 (by omega)
  obtain ⟨u1, hu1e⟩ : ∃ u1, u1 = zupd (zupd u 129 18 (o + 1)) 129 15 ((a + 1 : Nat) : Int) := ⟨_, rfl⟩
  rw [← hu1e] at hb
  have hu1 : zoV μ u1 := by rw [hu1e]; exact zoV_t hu (zoV_t zoV_18 zoV_15)
  have e15 : u1 129 15 = ((a + 1 : Nat) : Int) := by rw [hu1e, zu_eq]
  have e17 : u1 129 17 = -1 := by rw [hu1e, zu_j (by decide), zu_j (by decide)]; exact hf
  have e18 : u1 129 18 = o + 1 := by rw [hu1e, zu_j (by decide), zu_eq]
  have hne : u 129 18 ≠ 6 := by omega
  have fin : ∀ (u2 : zMem) (K : zMem → zRs), u2 129 18 = o + 1 → zgf 11 18 129 u2 (fun v16 => zpf 11 18 129 (zw32 (v16 - 1)) u2 K) = K (zupd u2 129 18 o) := fun u2 K q => by
    have e : zw32 (o + 1 - 1) = o := by rw [zw32_id (by omega) (by omega)]; omega
    rw [gf_129, show ((18 : Nat) : Int) = 18 from rfl, q, e, pf_129]
    rfl
  unfold zod
  rw [if_neg hdg, if_neg hnk, if_neg (Nat.succ_ne_zero d), ← hc]
  rcases hc3 with c4 | c4 | c4
  · rw [if_pos c4]
    subst c4
    have go : ∀ v u2 R, XE u1 = some (v, u2) → zvc 11 129 (fX11_takes 129 41 u2) (fun v18 u19 => if v18 ≠ 0 then (zgf 11 18 129 u19 (fun v16 => zpf 11 18 129 (zw32 (v16 - 1)) u19 (fun u17 => some (v, u17)))) else (zvc 11 129 (fX11_wrong 129 u19) (fun v20 u21 => some (v20, u21)))) = R → zJ5 XE XO 40 u = R := fun v u2 R q1 q2 => by
      unfold zJ5
      rw [gf_129, show ((18 : Nat) : Int) = 18 from rfl, if_pos hne, hb, zjn_ok, if_neg (by decide), vq_129 q1]
      exact q2
    obtain ⟨x1, x2⟩ := hE.1 u1 (a + 1) hu1 e15 e17 e18 (by omega)
    cases e : E (a + 1) with
    | inl g =>
      rw [zpB_l]
      refine ⟨fun g' h => ?_, fun a' cs h => (by cases h)⟩
      cases h
      obtain ⟨v, u2, b1, b2, b3, b4, b5⟩ := x1 g e
      refine ⟨0, u2, go v u2 _ b1 ?_, b2, b3, b4, b5⟩
      rw [vq_129 (v_takes_f (by omega)), if_neg (by decide), vq_129 (v_wrong_f (by omega))]
    | inr q =>
      obtain ⟨a', cs⟩ := q
      obtain ⟨t1, t2, -⟩ := (gE (a + 1) (by omega)).2 a' cs e
      obtain ⟨v, u2, b1, b2, b3, b4, b5, b6⟩ := x2 a' cs e
      have hp := v_takes (w := 41) H b2 b3 t2 b4 (by decide)
      rw [zpB_r]
      by_cases c5 : zgn T n a' = 41
      · rw [if_pos c5] at hp ⊢
        refine ⟨fun g' h => (by cases h), fun x xs h => ?_⟩
        cases h
        refine ⟨v, zupd (zupd u2 129 15 ((a' + 1 : Nat) : Int)) 129 18 o, go v u2 _ b1 ?_, zoV_t b2 (zoV_t zoV_15 zoV_18), (zu_j (by decide)).trans zu_eq, (zu_j (by decide)).trans ((zu_j (by decide)).trans b4), zu_eq, b6⟩
        rw [vq_129 hp, if_pos (by decide), fin _ _ ((zu_j (by decide)).trans b5)]
      · rw [if_neg c5] at hp ⊢
        refine ⟨fun g' h => ?_, fun x xs h => (by cases h)⟩
        cases h
        refine ⟨0, zupd u2 129 17 a', go v u2 _ b1 ?_, zoV_t b2 zoV_17, zu_eq, ?_, ?_⟩
        · rw [vq_129 hp, if_neg (by decide), vq_129 (v_wrong b3 b4)]
        · rw [zu_j (by decide), b3]; omega
        · rw [zu_j (by decide), b3]; omega
  · rw [if_neg (by omega), if_pos c4]
    subst c4
    have go : ∀ v u2 R, XO u1 = some (v, u2) → zgf 11 18 129 u2 (fun v16 => zpf 11 18 129 (zw32 (v16 - 1)) u2 (fun u17 => if v ≠ 0 then (some (0, u17)) else (some (1, u17)))) = R → zJ5 XE XO 33 u = R := fun v u2 R q1 q2 => by
      unfold zJ5
      rw [gf_129, show ((18 : Nat) : Int) = 18 from rfl, if_pos hne, hb, zjn_ok, if_pos (by decide), vq_129 q1]
      exact q2
    obtain ⟨x1, x2⟩ := hO.1 u1 (a + 1) hu1 e15 e17 e18 (by omega)
    cases e : O (a + 1) with
    | inl g =>
      rw [zpB_l]
      refine ⟨fun g' h => ?_, fun a' cs h => (by cases h)⟩
      cases h
      obtain ⟨v, u2, b1, b2, b3, b4, b5⟩ := x1 g e
      refine ⟨if v ≠ 0 then 0 else 1, zupd u2 129 18 (zw32 (u2 129 18 - 1)), go v u2 _ b1 ?_, zoV_t b2 zoV_18, (zu_j (by decide)).trans b3, by rw [zu_j (by decide)]; exact b4, by rw [zu_j (by decide)]; exact b5⟩
      rw [gf_129, pf_129]
      by_cases hv : v ≠ 0
      · rw [if_pos hv, if_pos hv]; rfl
      · rw [if_neg hv, if_neg hv]; rfl
    | inr q =>
      obtain ⟨a', cs⟩ := q
      obtain ⟨v, u2, b1, b2, b3, b4, b5, b6⟩ := x2 a' cs e
      rw [zpB_r]
      refine ⟨fun g' h => (by cases h), fun x xs h => ?_⟩
      cases h
      refine ⟨if v = 0 then 1 else 0, zupd u2 129 18 o, go v u2 _ b1 ?_, zoV_t b2 zoV_18, (zu_j (by decide)).trans b3, (zu_j (by decide)).trans b4, zu_eq, fun S hS => ?_⟩
      · rw [fin _ _ b5]
        by_cases hv : v = 0
        · rw [if_neg (fun q => q hv), if_pos hv]
        · rw [if_pos hv, if_neg hv]
      · rw [zex_app, b6 S hS, Option.bind_some, zex_1, zx1_33 (by omega)]
  · rw [if_neg (by omega), if_neg (by omega), if_pos c4]
    subst c4
    have go : ∀ v u2 R, XO u1 = some (v, u2) → zgf 11 18 129 u2 (fun v16 => zpf 11 18 129 (zw32 (v16 - 1)) u2 (fun u17 => some ((zw32 (-v)), u17))) = R → zJ5 XE XO 45 u = R := fun v u2 R q1 q2 => by
      unfold zJ5
      rw [gf_129, show ((18 : Nat) : Int) = 18 from rfl, if_pos hne, hb, zjn_ok, if_pos (by decide), vq_129 q1]
      exact q2
    obtain ⟨x1, x2⟩ := hO.1 u1 (a + 1) hu1 e15 e17 e18 (by omega)
    cases e : O (a + 1) with
    | inl g =>
      rw [zpB_l]
      refine ⟨fun g' h => ?_, fun a' cs h => (by cases h)⟩
      cases h
      obtain ⟨v, u2, b1, b2, b3, b4, b5⟩ := x1 g e
      refine ⟨zw32 (-v), zupd u2 129 18 (zw32 (u2 129 18 - 1)), go v u2 _ b1 ?_, zoV_t b2 zoV_18, (zu_j (by decide)).trans b3, by rw [zu_j (by decide)]; exact b4, by rw [zu_j (by decide)]; exact b5⟩
      rw [gf_129, pf_129]
      rfl
    | inr q =>
      obtain ⟨a', cs⟩ := q
      obtain ⟨v, u2, b1, b2, b3, b4, b5, b6⟩ := x2 a' cs e
      rw [zpB_r]
      refine ⟨fun g' h => (by cases h), fun x xs h => ?_⟩
      cases h
      refine ⟨zw32 (-v), zupd u2 129 18 o, go v u2 _ b1 ?_, zoV_t b2 zoV_18, (zu_j (by decide)).trans b3, (zu_j (by decide)).trans b4, zu_eq, fun S hS => ?_⟩
      · rw [fin _ _ b5]
      · rw [zex_app, b6 S hS, Option.bind_some, zex_1, zx1_126 (by omega)]
set_option maxHeartbeats 400000 in
theorem v_number {μ : zMem} {T : Nat → Int} {n : Nat} (H : zTr μ T n) {u : zMem} {a : Nat} (hu : zoV μ u) (ha : u 129 15 = a) (hf : u 129 17 = -1) (ha2 : a ≤ n) (hdg : zdig (zgn T n a) = true) :
    ∃ u', zlp (fun _ _ _ => none) zNB 1000000 0 0 u = some ((znum (zgn T n) 4 a 0).2, u') ∧ zoV μ u' ∧ u' 129 15 = (znum (zgn T n) 4 a 0).1 ∧ u' 129 17 = -1 ∧ u' 129 18 = u 129 18 := by
  have h120 := H.2.2.1
  refine zlp_meas (fun m (f : Int → Int → zMem → zRs) => ∀ (k : Nat) (v1 v2 : Int) (u0 : zMem) (a : Nat), 0 ≤ v1 → v1 ≤ zb10 k → 0 ≤ v2 → v2 + (k : Int) = 4 → (v2 = 0 → zdig (zgn T n a) = true) → k < m → zoV μ u0 → u0 129 15 = a → u0 129 17 = -1 → u0 129 18 = u 129 18 → a ≤ n → ∃ u', f v1 v2 u0 = some ((znum (zgn T n) k a v1).2, u') ∧ zoV μ u' ∧ u' 129 15 = (znum (zgn T n) k a v1).1 ∧ u' 129 17 = -1 ∧ u' 129 18 = u 129 18)
    (fun k v1 v2 u a _ _ _ _ _ h => absurd h (Nat.not_lt_zero _)) (fun m f ih k v1 v2 u0 a b0 b1 b2 b3 bd b4 hu ha hf ho ha2 => ?_) 1000000 4 0 0 u a (Int.le_refl _) (by decide) (Int.le_refl _) (by decide) (fun _ => hdg) (by omega) hu ha hf rfl ha2
  have hs := v_byte H hu ha
  have hz := zgz_is H a
  have stop : v2 ≠ 0 → (fun (u34 : zMem) => if v2 ≠ 0 then (some (v1, u34)) else (zvc 11 129 (fX11_wrong 129 u34) (fun v36 u37 => some (v36, u37)))) u0 = some (v1, u0) := fun q => if_pos q
  cases k with
  | zero =>
    refine ⟨u0, ?_, hu, ha, hf, ho⟩
    unfold zNB
    rw [zjn_ok, if_pos (by omega)]
    exact stop (by omega)
  | succ k =>
    have hlt : ¬ v2 ≥ 4 := by omega
    unfold znum
    by_cases c : zdig (zgn T n a) = true
    · rw [if_pos c]
      have hc : 48 ≤ zgn T n a ∧ zgn T n a ≤ 57 := of_decide_eq_true c
      have haN := zgn_lt (T := T) (n := n) (a := a) (by omega)
      obtain ⟨z1, z2⟩ := zb10_S (k := k) (by omega)
      have hzz : zgz T n a = zgn T n a := by omega
      rw [hzz] at hs
      obtain ⟨u2, q1, q2⟩ := ih k (v1 * 10 + zgn T n a - 48) (v2 + 1) (zupd u0 129 15 ((a + 1 : Nat) : Int)) (a + 1) (by omega) (by omega) (by omega) (by omega) (by omega) (by omega) (zoV_t hu zoV_15) zu_eq ((zu_j (by decide)).trans hf) ((zu_j (by decide)).trans ho) (by omega)
      refine ⟨u2, ?_, q2⟩
      have hn1 : ¬ zgn T n a < 48 := by omega
      have hn2 : ¬ zgn T n a > 57 := by omega
      have hw1 : zw32 (zw32 (zw32 (10 * v1) + zgn T n a) - 48) = v1 * 10 + zgn T n a - 48 := by
        rw [zw32_id (x := 10 * v1) (by omega) (by omega), zw32_id (x := 10 * v1 + zgn T n a) (by omega) (by omega), zw32_id (by omega) (by omega)]
        omega
      have hw2 : zw32 (v2 + 1) = v2 + 1 := zw32_id (by omega) (by omega)
      have hw3 : zw32 ((a : Int) + 1) = ((a + 1 : Nat) : Int) := zupn (by omega)
      unfold zNB
      rw [zjn_ok, if_neg hlt, vq_129 hs, if_neg hn1, vq_129 hs, if_neg hn2, vq_129 hs, gf_129, show ((15 : Nat) : Int) = 15 from rfl, ha, hw3, pf_129, show ((15 : Nat) : Int) = 15 from rfl, hw1, hw2]
      exact q1
    · rw [if_neg c]
      have hv2 : v2 ≠ 0 := fun q => c (bd q)
      have hc : ¬ (48 ≤ zgn T n a ∧ zgn T n a ≤ 57) := fun q => c (decide_eq_true q)
      refine ⟨u0, ?_, hu, ha, hf, ho⟩
      unfold zNB
      by_cases l : zgz T n a < 48
      · rw [zjn_ok, if_neg hlt, vq_129 hs, if_pos l]
        exact stop hv2
      · have l2 : zgz T n a > 57 := by omega
        rw [zjn_ok, if_neg hlt, vq_129 hs, if_neg l, vq_129 hs, if_pos l2]
        exact stop hv2
set_option maxHeartbeats 400000 in
theorem v_no_number {μ : zMem} {T : Nat → Int} {n : Nat} (H : zTr μ T n) {u : zMem} {a : Nat} (hu : zoV μ u) (ha : u 129 15 = a) (hf : u 129 17 = -1) (hdg : ¬ zdig (zgn T n a) = true) : zlp (fun _ _ _ => none) zNB 1000000 0 0 u = some (0, zupd u 129 17 a) := by
  have hs := v_byte H hu ha
  have hz := zgz_is H a
  have hc : ¬ (48 ≤ zgn T n a ∧ zgn T n a ≤ 57) := fun q => hdg (decide_eq_true q)
  have stop : (fun (u34 : zMem) => if (0 : Int) ≠ 0 then (some ((0 : Int), u34)) else (zvc 11 129 (fX11_wrong 129 u34) (fun v36 u37 => some (v36, u37)))) u = some (0, zupd u 129 17 a) := (if_neg (fun q => q rfl)).trans (vq_129 (v_wrong ha hf))
  rw [show (1000000 : Nat) = 999999 + 1 from rfl, zlp_S]
  generalize zlp (fun (_ _ : Int) (_ : zMem) => (none : zRs)) zNB 999999 = f
  unfold zNB
  by_cases l : zgz T n a < 48
  · rw [zjn_ok, if_neg (by decide), vq_129 hs, if_pos l]
    exact stop
  · have l2 : zgz T n a > 57 := by omega
    rw [zjn_ok, if_neg (by decide), vq_129 hs, if_neg l, vq_129 hs, if_pos l2]
    exact stop
set_option maxHeartbeats 400000 in
theorem v_nameOf {u : zMem} (g : Int) : fX11_nameOf g u = some (znk g, u) := t_nameOf g
set_option maxHeartbeats 400000 in
theorem v_operand {μ : zMem} {T : Nat → Int} {n d h : Nat} {E O : Nat → zRp} (H : zTr μ T n) (o : Int) (ho6 : o + (d : Int) = 6) (o0 : 0 ≤ o) (h1 : 1 ≤ h) (rec : (Int → zMem → zRs) × (Int → zMem → zRs) × (Int → zMem → zRs) × (Int → zMem → zRs) × (Int → zMem → zRs) × (Int → zMem → zRs))
    (gE : d ≠ 0 → zgd n E) (gO : d ≠ 0 → zgd n O) (hE : d ≠ 0 → zRI μ n (μ 139) h (o + 1) E (fun u => rec.1 129 u)) (hO : d ≠ 0 → zRI μ n (μ 139) h (o + 1) O (fun u => rec.2.2.2.2.2 129 u)) : zRI μ n (μ 139) h o (zod d E O (zgn T n)) (fun u => gX11_either_b5 rec 129 u) := by
  have h120 := H.2.2.1
  refine ⟨fun u a hu ha hf ho ha2 => ?_, fun u hu hf q0 q1 => ?_⟩
  · have hs := v_byte H hu ha
    have hz := zgz_is H a
    have hneg : u 129 17 < 0 := by omega
    have start : ∀ R, zjn (zJ5 (fun u => rec.1 129 u) (fun u => rec.2.2.2.2.2 129 u) (zgz T n a)) (fun k5 => if zgz T n a = 33 then (k5 u) else (if zgz T n a = 45 then (k5 u) else (if zgz T n a ≠ 40 then (zcall (fX11_nameOf (zgz T n a) u) (fun v28 u29 => if v28 < 0 then (zlp (fun _ _ _ => none) zNB 1000000 0 0 u29) else (zgf 11 15 129 u29 (fun v46 => zpf 11 15 129 (zw32 (v46 + 1)) u29 (fun u47 => zgf 11 19 129 u47 (fun v48 => zald 20 v48 v28 u47 (fun v49 => some (v49, u47)))))))) else (k5 u)))) = R → gX11_either_b5 rec 129 u = R := fun R q => by
      unfold gX11_either_b5
      rw [gf_129, show ((17 : Nat) : Int) = 17 from rfl, if_pos hneg, vq_129 hs]
      exact q
    by_cases c : zgn T n a = 40 ∨ zgn T n a = 33 ∨ zgn T n a = 45
    · have hzz : zgz T n a = zgn T n a := by omega
      have hdg : ¬ zdig (zgn T n a) = true := fun q => by
        have : 48 ≤ zgn T n a ∧ zgn T n a ≤ 57 := of_decide_eq_true q
        omega
      have hnk : ¬ 0 ≤ znk (zgn T n a) := fun q => by
        have := znk_in q
        omega
      have start2 : ∀ R, zJ5 (fun u => rec.1 129 u) (fun u => rec.2.2.2.2.2 129 u) (zgn T n a) u = R → gX11_either_b5 rec 129 u = R := fun R q => by
        refine start R ?_
        rw [zjn_ok, hzz]
        by_cases c1 : zgn T n a = 33
        · rw [if_pos c1]; exact q
        · by_cases c2 : zgn T n a = 45
          · rw [if_neg c1, if_pos c2]; exact q
          · rw [if_neg c1, if_neg c2, if_neg (by omega)]; exact q
      by_cases hd : d = 0
      · unfold zod
        rw [if_neg hdg, if_neg hnk, if_pos hd]
        refine ⟨fun g h => ?_, fun a' cs h => (by cases h)⟩
        cases h
        refine ⟨0, zupd u 129 17 a, start2 _ ?_, zoV_t hu zoV_17, zu_eq, ?_, ?_⟩
        · unfold zJ5
          rw [gf_129, show ((18 : Nat) : Int) = 18 from rfl, if_neg (by omega), vq_129 (v_wrong ha hf)]
        · rw [zu_j (by decide), ha]; omega
        · rw [zu_j (by decide), ha]; omega
      · obtain ⟨d', rfl⟩ : ∃ d', d = d' + 1 := ⟨d - 1, by omega⟩
        obtain ⟨x1, x2⟩ := v_J5 H o ho6 o0 h1 (gE hd) (gO hd) (hE hd) (hO hd) hu ha hf ho rfl c ha2 hdg hnk
        refine ⟨fun g h => ?_, fun a' cs h => ?_⟩
        · obtain ⟨v, u', q1, q2⟩ := x1 g h
          exact ⟨v, u', start2 _ q1, q2⟩
        · obtain ⟨v, u', q1, q2⟩ := x2 a' cs h
          exact ⟨v, u', start2 _ q1, q2⟩
    · have n33 : ¬ zgz T n a = 33 := by omega
      have n45 : ¬ zgz T n a = 45 := by omega
      have n40 : zgz T n a ≠ 40 := by omega
      have hkz : znk (zgz T n a) = znk (zgn T n a) := by
        rcases hz with ⟨q, -⟩ | ⟨q1, q2⟩
        · rw [q]
        · rw [q1, q2]; rfl
      have hnm := v_nameOf (u := u) (zgz T n a)
      rw [hkz] at hnm
      have start3 : ∀ R, (if znk (zgn T n a) < 0 then (zlp (fun _ _ _ => none) zNB 1000000 0 0 u) else (zgf 11 15 129 u (fun v46 => zpf 11 15 129 (zw32 (v46 + 1)) u (fun u47 => zgf 11 19 129 u47 (fun v48 => zald 20 v48 (znk (zgn T n a)) u47 (fun v49 => some (v49, u47))))))) = R → gX11_either_b5 rec 129 u = R := fun R q => by
        refine start R ?_
        rw [zjn_ok, if_neg n33, if_neg n45, if_pos n40, zcall_of hnm]
        exact q
      unfold zod
      by_cases hdg : zdig (zgn T n a) = true
      · rw [if_pos hdg]
        have hc : 48 ≤ zgn T n a ∧ zgn T n a ≤ 57 := of_decide_eq_true hdg
        have hneg : znk (zgn T n a) < 0 := by
          by_cases q : 0 ≤ znk (zgn T n a)
          · have := znk_in q; omega
          · omega
        obtain ⟨u', d1, d2, d3, d4, d5⟩ := v_number H hu ha hf ha2 hdg
        obtain ⟨-, -, i3, i4⟩ := znum_4 hdg
        refine ⟨fun g h => (by cases h), fun a' cs h => ?_⟩
        cases h
        refine ⟨_, u', start3 _ ((if_pos hneg).trans d1), d2, d3, d4, d5.trans ho, fun S hS => ?_⟩
        rw [zex_1, zx1_n i4 (by omega)]
      rw [if_neg hdg]
      by_cases hk : 0 ≤ znk (zgn T n a)
      · rw [if_pos hk]
        have hki := znk_in hk
        have haN := zgn_lt (T := T) (n := n) (a := a) (by omega)
        have hnn : ¬ znk (zgn T n a) < 0 := by omega
        have hk8 : znk (zgn T n a) < 8 := by
          unfold znk
          repeat (split; omega)
          omega
        refine ⟨fun g h => (by cases h), fun a' cs h => ?_⟩
        cases h
        have hw3 : zw32 ((a : Int) + 1) = ((a + 1 : Nat) : Int) := zupn (by omega)
        have hu2 := zoV_t hu (zoV_15 (v := ((a + 1 : Nat) : Int)))
        refine ⟨μ 139 (znk (zgn T n a)), zupd u 129 15 ((a + 1 : Nat) : Int), start3 _ ?_, hu2, zu_eq, (zu_j (by decide)).trans hf, (zu_j (by decide)).trans ho, fun S hS => ?_⟩
        · rw [if_neg hnn, gf_129, show ((15 : Nat) : Int) = 15 from rfl, ha, hw3, pf_129, show ((15 : Nat) : Int) = 15 from rfl, gq_129_19 (zoV_G0 hu2 H.1), al_139 hk hk8, hu2 _ _ (by omega)]
        · rw [zex_1, zx1_m hk (by omega)]
      · rw [if_neg hk]
        have hneg : znk (zgn T n a) < 0 := by omega
        have hnn := v_no_number H hu ha hf hdg
        have hod : (if d = 0 then (.inl a : zRp) else if zgn T n a = 40 then zpB (E (a + 1)) (fun a' cs => if zgn T n a' = 41 then .inr (a' + 1, cs) else .inl a') else if zgn T n a = 33 then zpB (O (a + 1)) (fun a' cs => .inr (a', cs ++ [10033])) else if zgn T n a = 45 then zpB (O (a + 1)) (fun a' cs => .inr (a', cs ++ [10126])) else .inl a) = .inl a := by
          by_cases hd : d = 0
          · rw [if_pos hd]
          · rw [if_neg hd, if_neg (fun q => c (Or.inl q)), if_neg (fun q => c (Or.inr (Or.inl q))), if_neg (fun q => c (Or.inr (Or.inr q)))]
        rw [hod]
        refine ⟨fun g h => ?_, fun a' cs h => (by cases h)⟩
        cases h
        refine ⟨0, zupd u 129 17 a, start3 _ ((if_pos hneg).trans hnn), zoV_t hu zoV_17, zu_eq, ?_, ?_⟩
        · rw [zu_j (by decide), ha]; omega
        · rw [zu_j (by decide), ha]; omega
  · show gX11_either_b5 rec 129 u = _
    unfold gX11_either_b5
    rw [gf_129, show ((17 : Nat) : Int) = 17 from rfl, if_neg (by omega)]
