/-! ===== the class reads all of a text ===== -/
def zfl (Ls : List zLn) : List Int := Ls.flatMap zlc
set_option maxHeartbeats 400000 in
theorem zfl_c {l : zLn} {Ls : List zLn} : zfl (l :: Ls) = zlc l ++ zfl Ls := List.flatMap_cons
set_option maxHeartbeats 400000 in
theorem t_parse_1 {μ : zMem} {T : Nat → Int} {n : Nat} (H : zTx μ T n) :
    (∀ (u : zMem) (a : Nat) (C : List Int), zoT μ u → u 18 4 = a → u 18 5 = -1 → zcd u C → a ≤ n → C.length ≤ a + 1 →
      (∀ g, zls (zgn T n) 120 a = .inl g → ∃ u', lX9_parse_1 18 0 u = some ((g : Int), u') ∧ zoT μ u') ∧
      ∀ a' Ls, zls (zgn T n) 120 a = .inr (a', Ls) → (a' < n → ∃ u', lX9_parse_1 18 0 u = some ((a' : Int), u') ∧ zoT μ u') ∧ (¬ a' < n → ∃ u', lX9_parse_1 18 0 u = some (-1, u') ∧ zoT μ u' ∧ zcd u' (C ++ zfl Ls) ∧ (C ++ zfl Ls).length ≤ 121)) ∧
    ∀ u : zMem, zoT μ u → 0 ≤ u 18 5 → lX9_parse_1 18 0 u = some (u 18 5, u) := by
  have h120 := H.2.2.1
  have fin : ∀ (u : zMem) (a : Nat), zoT μ u → u 18 4 = a → u 18 5 = -1 → ∃ u', zgf 9 4 18 u (fun v10 => zgf 9 2 18 u (fun v11 => zjn (fun (u12 : zMem) => zgf 9 5 18 u12 (fun v14 => some (v14, u12))) (fun k13 => if v10 ≥ v11 then (k13 u) else (zvc 9 18 (fX9_fail 18 u) (fun _ u15 => k13 u15))))) = some (if a < n then (a : Int) else -1, u') ∧ zoT u u' ∧ (¬ a < n → u' = u) := fun u a hu ha hf => by
    have q2 : u 18 2 = n := (hu _ _ (by omega) (by omega)).trans H.2.1
    have hfl := t_fail ha hf
    by_cases c : a < n
    · rw [if_pos c]
      have c2 : ¬ (a : Int) ≥ n := by omega
      refine ⟨zupd u 18 5 a, ?_, zoT_5, fun q => absurd c q⟩
      rw [gf_18, show ((4 : Nat) : Int) = 4 from rfl, ha, gf_18, show ((2 : Nat) : Int) = 2 from rfl, q2, zjn_ok, if_neg c2, vq_18 hfl]
      show zgf 9 5 18 _ (fun v14 => some (v14, _)) = _
      rw [gf_18, show ((5 : Nat) : Int) = 5 from rfl, zu_eq]
    · rw [if_neg c]
      have c2 : (a : Int) ≥ n := by omega
      refine ⟨u, ?_, zoT_r, fun _ => rfl⟩
      rw [gf_18, show ((4 : Nat) : Int) = 4 from rfl, ha, gf_18, show ((2 : Nat) : Int) = 2 from rfl, q2, zjn_ok, if_pos c2]
      show zgf 9 5 18 _ (fun v14 => some (v14, _)) = _
      rw [gf_18, show ((5 : Nat) : Int) = 5 from rfl, hf]
  have finf : ∀ u : zMem, zoT μ u → 0 ≤ u 18 5 → zgf 9 4 18 u (fun v10 => zgf 9 2 18 u (fun v11 => zjn (fun (u12 : zMem) => zgf 9 5 18 u12 (fun v14 => some (v14, u12))) (fun k13 => if v10 ≥ v11 then (k13 u) else (zvc 9 18 (fX9_fail 18 u) (fun _ u15 => k13 u15))))) = some (u 18 5, u) := fun u hu hf => by
    have hfl := t_fail_f hf
    rw [gf_18, gf_18, zjn_ok]
    split
    · show zgf 9 5 18 _ (fun v14 => some (v14, _)) = _
      rw [gf_18]; rfl
    · rw [vq_18 hfl]
      show zgf 9 5 18 _ (fun v14 => some (v14, _)) = _
      rw [gf_18]; rfl
  unfold lX9_parse_1
  have key := zlp_meas (bot := fun (_ : Int) (_ : zMem) => (none : zRs)) (F := fun k7 (v5 : Int) (u6 : zMem) => zjn (fun (u8 : zMem) => zgf 9 4 18 u8 (fun v10 => zgf 9 2 18 u8 (fun v11 => zjn (fun (u12 : zMem) => zgf 9 5 18 u12 (fun v14 => some (v14, u12))) (fun k13 => if v10 ≥ v11 then (k13 u8) else (zvc 9 18 (fX9_fail 18 u8) (fun _ u15 => k13 u15)))))) (fun k9 => if v5 ≥ 120 then (k9 u6) else (zvc 9 18 (fX9_passes 18 59 u6) (fun v16 u17 => if v16 = 0 then (k9 u17) else (zvc 9 18 (fX9_line 18 u17) (fun _ u18 => k7 (zw32 (v5 + 1)) u18))))))
    (fun m (f : Int → zMem → zRs) => ∀ (k : Nat) (v : Int), 0 ≤ v → v + (k : Int) = 120 → k < m →
      (∀ (u : zMem) (a : Nat) (C : List Int), zoT μ u → u 18 4 = a → u 18 5 = -1 → zcd u C → a ≤ n → 120 ≤ a + k → C.length ≤ a + 1 →
        (∀ g, zls (zgn T n) k a = .inl g → ∃ u', f v u = some ((g : Int), u') ∧ zoT μ u') ∧
        ∀ a' Ls, zls (zgn T n) k a = .inr (a', Ls) → (a' < n → ∃ u', f v u = some ((a' : Int), u') ∧ zoT μ u') ∧ (¬ a' < n → ∃ u', f v u = some (-1, u') ∧ zoT μ u' ∧ zcd u' (C ++ zfl Ls) ∧ (C ++ zfl Ls).length ≤ 121)) ∧
      ∀ u : zMem, zoT μ u → 0 ≤ u 18 5 → f v u = some (u 18 5, u))
    (fun k v _ _ h => absurd h (Nat.not_lt_zero _)) (fun m f ih k v hv0 hv hk => ?_) 1000000 120 0 (Int.le_refl _) (by decide) (by omega)
  · exact ⟨fun u a C hu ha hf hC ha2 hCl => key.1 u a C hu ha hf hC ha2 (by omega) hCl, key.2⟩
  · have stop : ∀ (u : zMem) (a : Nat) (C : List Int), zoT μ u → u 18 4 = a → u 18 5 = -1 → zcd u C → a ≤ n → C.length ≤ a + 1 → ∀ R : zRs, R = zgf 9 4 18 u (fun v10 => zgf 9 2 18 u (fun v11 => zjn (fun (u12 : zMem) => zgf 9 5 18 u12 (fun v14 => some (v14, u12))) (fun k13 => if v10 ≥ v11 then (k13 u) else (zvc 9 18 (fX9_fail 18 u) (fun _ u15 => k13 u15))))) →
        (a < n → ∃ u', R = some ((a : Int), u') ∧ zoT μ u') ∧ (¬ a < n → ∃ u', R = some (-1, u') ∧ zoT μ u' ∧ zcd u' (C ++ zfl []) ∧ (C ++ zfl []).length ≤ 121) := fun u a C hu ha hf hC ha2 hCl R hR => by
      obtain ⟨u', q1, q2, q3⟩ := fin u a hu ha hf
      refine ⟨fun c => ?_, fun c => ?_⟩
      · rw [if_pos c] at q1
        exact ⟨u', hR.trans q1, zoT_t hu q2⟩
      · rw [if_neg c] at q1
        have e : C ++ zfl [] = C := List.append_nil C
        rw [e]
        have hu' := q3 c
        rw [hu'] at q1
        exact ⟨u, hR.trans q1, hu, hC, by omega⟩
    cases k with
    | zero =>
      have hge : v ≥ 120 := by omega
      refine ⟨fun u a C hu ha hf hC ha2 hak hCl => ⟨fun g h => (by cases h), fun a' Ls h => ?_⟩, fun u hu hf => (if_pos hge).trans (finf u hu hf)⟩
      cases h
      exact stop u a C hu ha hf hC ha2 hCl _ (if_pos hge)
    | succ k =>
      have hlt : ¬ v ≥ 120 := by omega
      have hup : zw32 (v + 1) = v + 1 := zw32_id (by omega) (by omega)
      obtain ⟨ih1, ih2⟩ := ih k (v + 1) (by omega) (by omega) (by omega)
      refine ⟨fun u a C hu ha hf hC ha2 hak hCl => ?_, fun u hu hf => ?_⟩
      · have hp := t_passes (w := 59) H hu ha ha2 hf
        unfold zls
        by_cases c : zgn T n a = 59
        · rw [if_pos c] at hp ⊢
          have haN := zgn_lt (T := T) (n := n) (a := a) (by omega)
          obtain ⟨x1, x2⟩ := t_line H (zupd u 18 4 ((a + 1 : Nat) : Int)) (a + 1) C (zoT_t hu zoT_4) zu_eq ((zu_j (by decide)).trans hf) (zcd_4 hC) (by omega) (by omega)
          have go : ∀ u2 w, fX9_line 18 (zupd u 18 4 ((a + 1 : Nat) : Int)) = some (0, u2) → f (v + 1) u2 = w → zjn (fun (u8 : zMem) => zgf 9 4 18 u8 (fun v10 => zgf 9 2 18 u8 (fun v11 => zjn (fun (u12 : zMem) => zgf 9 5 18 u12 (fun v14 => some (v14, u12))) (fun k13 => if v10 ≥ v11 then (k13 u8) else (zvc 9 18 (fX9_fail 18 u8) (fun _ u15 => k13 u15)))))) (fun k9 => if v ≥ 120 then (k9 u) else (zvc 9 18 (fX9_passes 18 59 u) (fun v16 u17 => if v16 = 0 then (k9 u17) else (zvc 9 18 (fX9_line 18 u17) (fun _ u18 => f (zw32 (v + 1)) u18))))) = w := fun u2 w q1 q2 => by
            rw [zjn_ok, if_neg hlt, vq_18 hp, if_neg (by decide), vq_18 q1, hup]
            exact q2
          cases e : zln (zgn T n) (a + 1) with
          | inl g =>
            refine ⟨fun g' h => ?_, fun a' cs h => (by cases h)⟩
            cases h
            obtain ⟨u2, b1, b2, b3, b4⟩ := x1 g e
            have q := ih2 u2 b2 (by omega)
            rw [b3] at q
            exact ⟨u2, go u2 _ b1 q, b2⟩
          | inr q =>
            obtain ⟨a', l⟩ := q
            obtain ⟨t1, t2, t3⟩ := (zln_in (T := T) (n := n) (a := a + 1) (by omega)).2 a' l e
            obtain ⟨u2, b1, b2, b3, b4, b5⟩ := x2 a' l e
            obtain ⟨r1, r2⟩ := ih1 u2 a' (C ++ zlc l) b2 b3 b4 b5 t3 (by omega) (by rw [List.length_append]; omega)
            dsimp only
            cases e2 : zls (zgn T n) k a' with
            | inl g =>
              refine ⟨fun g' h => ?_, fun a' cs h => (by cases h)⟩
              cases h
              obtain ⟨u4, q1, q2⟩ := r1 g e2
              exact ⟨u4, go u2 _ b1 q1, q2⟩
            | inr q =>
              obtain ⟨a'', Ls⟩ := q
              refine ⟨fun g' h => (by cases h), fun x xs h => ?_⟩
              cases h
              obtain ⟨y1, y2⟩ := r2 a'' Ls e2
              refine ⟨fun z => ?_, fun z => ?_⟩
              · obtain ⟨u4, q1, q2⟩ := y1 z
                exact ⟨u4, go u2 _ b1 q1, q2⟩
              · obtain ⟨u4, q1, q2, q3, q4⟩ := y2 z
                rw [List.append_assoc, ← zfl_c] at q3 q4
                exact ⟨u4, go u2 _ b1 q1, q2, q3, q4⟩
        · rw [if_neg c] at hp ⊢
          refine ⟨fun g h => (by cases h), fun a' Ls h => ?_⟩
          cases h
          refine stop u a C hu ha hf hC ha2 hCl _ ?_
          show zjn _ _ = _
          rw [zjn_ok, if_neg hlt, vq_18 hp, if_pos rfl]
      · refine Eq.trans ?_ (finf u hu hf)
        show zjn _ _ = _
        rw [zjn_ok, if_neg hlt, vq_18 (t_passes_f hf (by decide)), if_pos rfl]
set_option maxHeartbeats 400000 in
theorem t_parse {μ : zMem} {T : Nat → Int} {n : Nat} (H : zTx μ T n) :
    (∀ g, ztx (zgn T n) n = .inl g → ∃ u', fX9_parse 18 μ = some ((g : Int), u') ∧ zoT μ u') ∧ ∀ Ls, ztx (zgn T n) n = .inr Ls → ∃ u', fX9_parse 18 μ = some (-1, u') ∧ zoT μ u' ∧ zcd u' (zfl Ls) ∧ (zfl Ls).length ≤ 121 := by
  have h120 := H.2.2.1
  obtain ⟨u, hu⟩ : ∃ u, u = zupd (zupd (zupd μ 18 4 0) 18 3 0) 18 5 (-1) := ⟨_, rfl⟩
  have hu1 : zoT μ u := by
    intro a j q1 q2
    rw [hu]
    unfold zupd
    rw [if_neg (by omega), if_neg (by omega), if_neg (by omega)]
  have e4 : u 18 4 = ((0 : Nat) : Int) := by rw [hu, zu_j (by decide), zu_j (by decide), zu_eq]; rfl
  have e5 : u 18 5 = -1 := by rw [hu, zu_eq]
  have eC : zcd u [] := ⟨by rw [hu, zu_j (by decide), zu_eq]; rfl, fun k c h => by simp at h⟩
  have go : ∀ u2 w, fX9_line 18 u = some (0, u2) → lX9_parse_1 18 0 u2 = w → fX9_parse 18 μ = w := fun u2 w q1 q2 => by
    rw [eX9_parse, pf_18, pf_18, pf_18]
    show zvc 9 18 (fX9_line 18 (zupd (zupd (zupd μ 18 4 0) 18 3 0) 18 5 (-1))) _ = _
    rw [← hu, vq_18 q1]
    exact q2
  obtain ⟨x1, x2⟩ := t_line H u 0 [] hu1 e4 e5 eC (Nat.zero_le _) (Nat.le_refl _)
  obtain ⟨p1, p2⟩ := t_parse_1 H
  unfold ztx
  cases e : zln (zgn T n) 0 with
  | inl g =>
    refine ⟨fun g' h => ?_, fun Ls h => (by cases h)⟩
    cases h
    obtain ⟨u2, b1, b2, b3, b4⟩ := x1 g e
    have q := p2 u2 b2 (by omega)
    rw [b3] at q
    exact ⟨u2, go u2 _ b1 q, b2⟩
  | inr q =>
    obtain ⟨a', l⟩ := q
    obtain ⟨t1, t2, t3⟩ := (zln_in (T := T) (n := n) (a := 0) (Nat.zero_le _)).2 a' l e
    obtain ⟨u2, b1, b2, b3, b4, b5⟩ := x2 a' l e
    rw [List.nil_append] at b5
    obtain ⟨r1, r2⟩ := p1 u2 a' (zlc l) b2 b3 b4 b5 t3 (by omega)
    dsimp only
    cases e2 : zls (zgn T n) 120 a' with
    | inl g =>
      refine ⟨fun g' h => ?_, fun Ls h => (by cases h)⟩
      cases h
      obtain ⟨u4, q1, q2⟩ := r1 g e2
      exact ⟨u4, go u2 _ b1 q1, q2⟩
    | inr q =>
      obtain ⟨a'', Ls⟩ := q
      obtain ⟨y1, y2⟩ := r2 a'' Ls e2
      dsimp only
      by_cases z : a'' < n
      · rw [if_pos z]
        refine ⟨fun g' h => ?_, fun Ls h => (by cases h)⟩
        cases h
        obtain ⟨u4, q1, q2⟩ := y1 z
        exact ⟨u4, go u2 _ b1 q1, q2⟩
      · rw [if_neg z]
        refine ⟨fun g' h => (by cases h), fun Ms h => ?_⟩
        cases h
        obtain ⟨u4, q1, q2, q3, q4⟩ := y2 z
        rw [← zfl_c] at q3 q4
        exact ⟨u4, go u2 _ b1 q1, q2, q3, q4⟩
