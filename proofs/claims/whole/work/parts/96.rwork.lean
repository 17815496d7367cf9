/-! ===== the reference reads a text: levels, lines, all of it ===== -/
set_option maxHeartbeats 400000 in
theorem zRI_m {μ : zMem} {n h h' : Nat} {nm : Int → Int} {o : Int} {f : Nat → zRp} {X : zMem → zRs} (hh : h ≤ h') (H : zRI μ n nm h o f X) : zRI μ n nm h' o f X := by
  refine ⟨fun u a hu ha hf ho ha2 => ?_, H.2⟩
  obtain ⟨x1, x2⟩ := H.1 u a hu ha hf ho ha2
  refine ⟨x1, fun a' cs e => ?_⟩
  obtain ⟨v, u', q1, q2, q3, q4, q5, q6⟩ := x2 a' cs e
  exact ⟨v, u', q1, q2, q3, q4, q5, zvl_m hh q6⟩
set_option maxHeartbeats 400000 in
theorem zopM : ∀ g, zgM g = true → zop g := fun g h => by
  have hc : g = 42 ∨ g = 47 ∨ g = 37 := of_decide_eq_true h
  rcases hc with rfl | rfl | rfl <;> exact ⟨by decide, by decide, by decide, by decide⟩
set_option maxHeartbeats 400000 in
theorem zopA : ∀ g, zgA g = true → zop g := fun g h => by
  have hc : g = 43 ∨ g = 45 := of_decide_eq_true h
  rcases hc with rfl | rfl <;> exact ⟨by decide, by decide, by decide, by decide⟩
set_option maxHeartbeats 400000 in
theorem zeS (rec : (Int → zMem → zRs) × (Int → zMem → zRs) × (Int → zMem → zRs) × (Int → zMem → zRs) × (Int → zMem → zRs) × (Int → zMem → zRs)) (u : zMem) : gX11_either_b3 rec 129 u = zvc 11 129 (rec.2.2.2.2.1 129 u) (fun v u1 => zLPG (zbdA (fun u => rec.2.2.2.2.1 129 u)) v u1) := by
  unfold gX11_either_b3 zLPG zbdA
  rfl
set_option maxHeartbeats 400000 in
theorem zeD (rec : (Int → zMem → zRs) × (Int → zMem → zRs) × (Int → zMem → zRs) × (Int → zMem → zRs) × (Int → zMem → zRs) × (Int → zMem → zRs)) (u : zMem) : gX11_either_b1 rec 129 u = zvc 11 129 (rec.2.2.1 129 u) (fun v u1 => zLPA (fun u => rec.2.2.1 129 u) 38 (fun v3 v8 u9 k5 => zjn (fun (v10 : Int) (u11 : zMem) => k5 v10 u11) (fun k12 => zjn (fun (u13 : zMem) => k12 0 u13) (fun k14 => if v3 = 0 then (k14 u9) else (if v8 = 0 then (k14 u9) else (k12 1 u9))))) v u1) := by
  unfold gX11_either_b1 zLPA
  rfl
set_option maxHeartbeats 400000 in
theorem zeE (rec : (Int → zMem → zRs) × (Int → zMem → zRs) × (Int → zMem → zRs) × (Int → zMem → zRs) × (Int → zMem → zRs) × (Int → zMem → zRs)) (u : zMem) : gX11_either_b0 rec 129 u = zvc 11 129 (rec.2.1 129 u) (fun v u1 => zLPA (fun u => rec.2.1 129 u) 124 (fun v3 v8 u9 k5 => zjn (fun (v10 : Int) (u11 : zMem) => k5 v10 u11) (fun k12 => zjn (fun (u13 : zMem) => k12 1 u13) (fun k14 => if v3 ≠ 0 then (k14 u9) else (if v8 = 0 then (k12 0 u9) else (k14 u9))))) v u1) := by
  unfold gX11_either_b0 zLPA
  rfl
set_option maxHeartbeats 400000 in
theorem zgX_S (N : Nat) : gX11_either (N + 1) = (gX11_either_b0 (gX11_either N), gX11_either_b1 (gX11_either N), gX11_either_b2 (gX11_either N), gX11_either_b3 (gX11_either N), gX11_either_b4 (gX11_either N), gX11_either_b5 (gX11_either N)) := rfl
set_option maxHeartbeats 400000 in
theorem v_P {μ : zMem} {T : Nat → Int} {n M h : Nat} {nm : Int → Int} {o : Int} {O : Nat → zRp} (H : zTr μ T n) (g : zgd n O) (hO : ∀ N, M ≤ N → zRI μ n nm h o O (fun u => (gX11_either N).2.2.2.2.2 129 u)) (N : Nat) (hN : M + 1 ≤ N) : zRI μ n nm (h + 1) o (zpP O (zgn T n)) (fun u => (gX11_either N).2.2.2.2.1 129 u) := by
  obtain ⟨N', rfl⟩ : ∃ N', N = N' + 1 := ⟨N - 1, by omega⟩
  exact v_seq g (hO N' (by omega)) (v_loopG2 (B := zbdM (fun u => (gX11_either N').2.2.2.2.2 129 u)) H g (hO N' (by omega)) zopM (fun f u a v hu ha hf ha2 => v_bdM H f u a v hu ha hf ha2) (fun f u v c hf => v_bdM_f f u v c hf))
set_option maxHeartbeats 400000 in
theorem v_S {μ : zMem} {T : Nat → Int} {n M h : Nat} {nm : Int → Int} {o : Int} {O : Nat → zRp} (H : zTr μ T n) (g : zgd n O) (hO : ∀ N, M ≤ N → zRI μ n nm h o O (fun u => (gX11_either N).2.2.2.2.2 129 u)) (N : Nat) (hN : M + 2 ≤ N) : zRI μ n nm (h + 1 + 1) o (zpU O (zgn T n)) (fun u => (gX11_either N).2.2.2.1 129 u) := by
  obtain ⟨N', rfl⟩ : ∃ N', N = N' + 1 := ⟨N - 1, by omega⟩
  have e1 : ∀ u, (gX11_either (N' + 1)).2.2.2.1 129 u = gX11_either_b3 (gX11_either N') 129 u := fun u => by rw [zgX_S]
  have e2 := funext (fun u => (e1 u).trans (zeS (gX11_either N') u))
  rw [e2]
  exact v_seq (zgd_P g) (v_P H g hO N' (by omega)) (v_loopG (B := zbdA (fun u => (gX11_either N').2.2.2.2.1 129 u)) H (zgd_P g) (v_P H g hO N' (by omega)) zopA (fun f u a v hu ha hf ha2 => v_bdA H f u a v hu ha hf ha2) (fun f u v hf => v_bdA_f f u v hf))
set_option maxHeartbeats 400000 in
theorem v_K {μ : zMem} {T : Nat → Int} {n M h : Nat} {nm : Int → Int} {o : Int} {O : Nat → zRp} (H : zTr μ T n) (g : zgd n O) (hO : ∀ N, M ≤ N → zRI μ n nm h o O (fun u => (gX11_either N).2.2.2.2.2 129 u)) (N : Nat) (hN : M + 3 ≤ N) : zRI μ n nm (h + 1 + 1 + 1) o (zpK O (zgn T n)) (fun u => (gX11_either N).2.2.1 129 u) := by
  obtain ⟨N', rfl⟩ : ∃ N', N = N' + 1 := ⟨N - 1, by omega⟩
  exact v_comp H (zgd_S g) (v_S H g hO N' (by omega))
set_option maxHeartbeats 400000 in
theorem v_D {μ : zMem} {T : Nat → Int} {n M h : Nat} {nm : Int → Int} {o : Int} {O : Nat → zRp} (H : zTr μ T n) (g : zgd n O) (hO : ∀ N, M ≤ N → zRI μ n nm h o O (fun u => (gX11_either N).2.2.2.2.2 129 u)) (N : Nat) (hN : M + 4 ≤ N) : zRI μ n nm (h + 1 + 1 + 1 + 1) o (zpD O (zgn T n)) (fun u => (gX11_either N).2.1 129 u) := by
  obtain ⟨N', rfl⟩ : ∃ N', N = N' + 1 := ⟨N - 1, by omega⟩
  have e1 : ∀ u, (gX11_either (N' + 1)).2.1 129 u = gX11_either_b1 (gX11_either N') 129 u := fun u => by rw [zgX_S]
  have e2 := funext (fun u => (e1 u).trans (zeD (gX11_either N') u))
  rw [e2]
  exact v_seq (zgd_K g) (v_K H g hO N' (by omega)) (v_loopA (w := 38) (sg := zgD) (J := fun v3 v8 u9 k5 => zjn (fun (v10 : Int) (u11 : zMem) => k5 v10 u11) (fun k12 => zjn (fun (u13 : zMem) => k12 0 u13) (fun k14 => if v3 = 0 then (k14 u9) else (if v8 = 0 then (k14 u9) else (k12 1 u9))))) H (zgd_K g) (v_K H g hO N' (by omega)) ⟨by decide, by decide, by decide, by decide⟩ (fun g => decide_eq_true_iff) (by decide) (fun v x u k => by
    rw [zjn_ok, zjn_ok, zjt_38]
    by_cases c1 : v = 0
    · rw [if_pos c1, if_neg (fun q => q.1 c1)]
    · by_cases c2 : x = 0
      · rw [if_neg c1, if_pos c2, if_neg (fun q => q.2 c2)]
      · rw [if_neg c1, if_neg c2, if_pos ⟨c1, c2⟩]))
set_option maxHeartbeats 400000 in
theorem v_E {μ : zMem} {T : Nat → Int} {n M h : Nat} {nm : Int → Int} {o : Int} {O : Nat → zRp} (H : zTr μ T n) (g : zgd n O) (hO : ∀ N, M ≤ N → zRI μ n nm h o O (fun u => (gX11_either N).2.2.2.2.2 129 u)) (N : Nat) (hN : M + 5 ≤ N) : zRI μ n nm (h + 1 + 1 + 1 + 1 + 1) o (zpE O (zgn T n)) (fun u => (gX11_either N).1 129 u) := by
  obtain ⟨N', rfl⟩ : ∃ N', N = N' + 1 := ⟨N - 1, by omega⟩
  have e1 : ∀ u, (gX11_either (N' + 1)).1 129 u = gX11_either_b0 (gX11_either N') 129 u := fun u => by rw [zgX_S]
  have e2 := funext (fun u => (e1 u).trans (zeE (gX11_either N') u))
  rw [e2]
  exact v_seq (zgd_D g) (v_D H g hO N' (by omega)) (v_loopA (w := 124) (sg := zgV) (J := fun v3 v8 u9 k5 => zjn (fun (v10 : Int) (u11 : zMem) => k5 v10 u11) (fun k12 => zjn (fun (u13 : zMem) => k12 1 u13) (fun k14 => if v3 ≠ 0 then (k14 u9) else (if v8 = 0 then (k12 0 u9) else (k14 u9))))) H (zgd_D g) (v_D H g hO N' (by omega)) ⟨by decide, by decide, by decide, by decide⟩ (fun g => decide_eq_true_iff) (by decide) (fun v x u k => by
    rw [zjn_ok, zjn_ok, zjt_124]
    by_cases c1 : v = 0
    · by_cases c2 : x = 0
      · rw [if_neg (fun q => q c1), if_pos c2, if_neg (fun q => by rcases q with q | q <;> contradiction)]
      · rw [if_neg (fun q => q c1), if_neg c2, if_pos (Or.inr c2)]
    · rw [if_pos c1, if_pos (Or.inl c1)]))
set_option maxHeartbeats 400000 in
theorem v_O {μ : zMem} {T : Nat → Int} {n : Nat} (H : zTr μ T n) : ∀ (d : Nat) (o : Int), o + (d : Int) = 6 → 0 ≤ o → ∀ N, 6 * d + 1 ≤ N → zRI μ n (μ 139) (5 * d + 1) o (zpO (zgn T n) d) (fun u => (gX11_either N).2.2.2.2.2 129 u)
  | 0, o, h1, h0, N, hN => by
    obtain ⟨N', rfl⟩ : ∃ N', N = N' + 1 := ⟨N - 1, by omega⟩
    exact v_operand H o h1 h0 (by omega) (gX11_either N') (fun h => absurd rfl h) (fun h => absurd rfl h) (fun h => absurd rfl h) (fun h => absurd rfl h)
  | d + 1, o, h1, h0, N, hN => by
    obtain ⟨N', rfl⟩ : ∃ N', N = N' + 1 := ⟨N - 1, by omega⟩
    have ih := v_O H d (o + 1) (by omega) (by omega)
    exact v_operand H o h1 h0 (by omega) (gX11_either N') (fun _ => zgd_E (zgd_O d)) (fun _ => zgd_O d) (fun _ => zRI_m (by omega) (v_E H (zgd_O d) ih N' (by omega))) (fun _ => zRI_m (by omega) (ih N' (by omega)))
set_option maxHeartbeats 400000 in
theorem v_either {μ : zMem} {T : Nat → Int} {n : Nat} (H : zTr μ T n) : zRI μ n (μ 139) 36 0 (zpX (zgn T n)) (fun u => fX11_either 129 u) := zRI_m (by decide) (v_E H (zgd_O 6) (v_O H 6 0 (by decide) (by decide)) 200 (by decide))
/-! ### lines -/
def zLc (nm : Int → Int) (l : zLn) (x : Option Int) : Prop := ∃ c, zvl nm 36 l.1 c ∧ ((l.2 = none ∧ x = some c) ∨ ∃ ds, l.2 = some ds ∧ ((c ≠ 0 ∧ ∃ r, x = some r ∧ zvl nm 36 ds r) ∨ (c = 0 ∧ x = none)))
def zLw (nm : Int → Int) (z : Int) : List zLn → Int → Prop
  | [], r => r = z
  | l :: Ls, r => zLc nm l (some r) ∨ (zLc nm l none ∧ zLw nm z Ls r)
set_option maxHeartbeats 400000 in
theorem zls_S {G : Nat → Int} {k a : Nat} : zls G (k + 1) a = if G a = 59 then (match zln G (a + 1) with
    | .inl f => .inl f
    | .inr (a', l) => (match zls G k a' with
      | .inl f => .inl f
      | .inr (a'', Ls) => .inr (a'', l :: Ls))) else .inr (a, []) := rfl
def ztl (G : Nat → Int) (n k a : Nat) : Nat ⊕ List zLn := match zln G a with
  | .inl f => .inl f
  | .inr (a', l) => (match zls G k a' with
    | .inl f => .inl f
    | .inr (a'', Ls) => if a'' < n then .inl a'' else .inr (l :: Ls))
set_option maxHeartbeats 400000 in
theorem ztl_l {G : Nat → Int} {n k a f : Nat} (h : zln G a = .inl f) : ztl G n k a = .inl f := by unfold ztl; rw [h]
set_option maxHeartbeats 400000 in
theorem ztl_e {G : Nat → Int} {n k a a' : Nat} {l : zLn} (h : zln G a = .inr (a', l)) (h59 : ¬ G a' = 59) : ztl G n k a = if a' < n then .inl a' else .inr [l] := by
  have : zls G k a' = .inr (a', []) := by
    cases k with
    | zero => rfl
    | succ k => exact if_neg h59
  unfold ztl
  rw [h]
  dsimp only
  rw [this]
set_option maxHeartbeats 400000 in
theorem ztl_m {G : Nat → Int} {n k a a' : Nat} {l : zLn} (h : zln G a = .inr (a', l)) (h59 : G a' = 59) : ztl G n (k + 1) a = match ztl G n k (a' + 1) with
    | .inl f => .inl f
    | .inr Ls => .inr (l :: Ls) := by
  unfold ztl
  rw [h]
  dsimp only
  rw [zls_S, if_pos h59]
  cases e : zln G (a' + 1) with
  | inl f => rfl
  | inr q =>
    obtain ⟨b, m⟩ := q
    dsimp only
    cases e2 : zls G k b with
    | inl f => rfl
    | inr q =>
      obtain ⟨c, Ls⟩ := q
      dsimp only
      by_cases z : c < n
      · rw [if_pos z, if_pos z]
      · rw [if_neg z, if_neg z]
def zWB (k10 : Int → Int → Int → zMem → zRs) (v6 : Int) (v7 : Int) (v8 : Int) (u9 : zMem) : zRs := if v8 = 0 then (zgf 11 17 129 u9 (fun v11 => if v11 ≥ 0 then (some (v7, u9)) else (zgf 11 15 129 u9 (fun v12 => zgf 11 16 129 u9 (fun v13 => if v12 ≥ v13 then (some (v7, u9)) else (zvc 11 129 (fX11_wrong 129 u9) (fun v14 u15 => some (v14, u15)))))))) else (zvc 11 129 (fX11_either 129 u9) (fun v16 u17 => zvc 11 129 (fX11_takes 129 63 u17) (fun v18 u19 => zjn (fun (v20 : Int) (v21 : Int) (u22 : zMem) => zgf 11 17 129 u22 (fun v24 => zjn (fun (v25 : Int) (v26 : Int) (u27 : zMem) => zvc 11 129 (fX11_takes 129 59 u27) (fun v29 u30 => k10 v25 v26 v29 u30)) (fun k28 => if v24 ≥ 0 then (k28 v6 v7 u22) else (if v21 = 0 then (k28 v6 v7 u22) else (if v6 ≠ 0 then (k28 v6 v7 u22) else (k28 1 v20 u22)))))) (fun k23 => if v18 = 0 then (k23 v16 1 u19) else (zjn (fun (v31 : Int) (u32 : zMem) => zvc 11 129 (fX11_either 129 u32) (fun v34 u35 => k23 v34 v31 u35)) (fun k33 => if v16 = 0 then (k33 0 u19) else (k33 1 u19)))))))
/-- behind the expression of a line: what it gives, then whether one comes behind -/
def zWK (k10 : Int → Int → Int → zMem → zRs) (v6 v7 v20 v21 : Int) (u22 : zMem) : zRs := zgf 11 17 129 u22 (fun v24 => zjn (fun (v25 : Int) (v26 : Int) (u27 : zMem) => zvc 11 129 (fX11_takes 129 59 u27) (fun v29 u30 => k10 v25 v26 v29 u30)) (fun k28 => if v24 ≥ 0 then (k28 v6 v7 u22) else (if v21 = 0 then (k28 v6 v7 u22) else (if v6 ≠ 0 then (k28 v6 v7 u22) else (k28 1 v20 u22)))))
set_option maxHeartbeats 400000 in
theorem zWB_1 {f : Int → Int → Int → zMem → zRs} {v6 v7 v v18 : Int} {u u2 u3 : zMem} (e1 : fX11_either 129 u = some (v, u2)) (e2 : fX11_takes 129 63 u2 = some (v18, u3)) : zWB f v6 v7 1 u = if v18 = 0 then zWK f v6 v7 v 1 u3 else zvc 11 129 (fX11_either 129 u3) (fun v34 u35 => zWK f v6 v7 v34 (if v = 0 then 0 else 1) u35) := by
  unfold zWB
  rw [if_neg (by decide), vq_129 e1, vq_129 e2, zjn_ok]
  by_cases c : v18 = 0
  · rw [if_pos c, if_pos c]
    rfl
  · rw [if_neg c, if_neg c, zjn_ok]
    by_cases c2 : v = 0
    · rw [if_pos c2, if_pos c2]
      rfl
    · rw [if_neg c2, if_neg c2]
      rfl
set_option maxHeartbeats 400000 in
theorem zWK_f {f : Int → Int → Int → zMem → zRs} {v6 v7 v20 v21 : Int} {u : zMem} (hf : 0 ≤ u 129 17) : zWK f v6 v7 v20 v21 u = f v6 v7 0 u := by
  unfold zWK
  rw [gf_129, show ((17 : Nat) : Int) = 17 from rfl, zjn_ok, if_pos hf]
  exact vq_129 (v_takes_f hf)
set_option maxHeartbeats 400000 in
theorem zWK_0 {f : Int → Int → Int → zMem → zRs} {v6 v7 v20 v21 : Int} {u : zMem} (hf : u 129 17 = -1) (h : v21 = 0 ∨ v6 ≠ 0) : zWK f v6 v7 v20 v21 u = zvc 11 129 (fX11_takes 129 59 u) (fun v29 u30 => f v6 v7 v29 u30) := by
  unfold zWK
  rw [gf_129, show ((17 : Nat) : Int) = 17 from rfl, zjn_ok, if_neg (by omega)]
  by_cases c : v21 = 0
  · rw [if_pos c]
  · rw [if_neg c, if_pos (by omega)]
set_option maxHeartbeats 400000 in
theorem zWK_1 {f : Int → Int → Int → zMem → zRs} {v7 v20 v21 : Int} {u : zMem} (hf : u 129 17 = -1) (h : v21 ≠ 0) : zWK f 0 v7 v20 v21 u = zvc 11 129 (fX11_takes 129 59 u) (fun v29 u30 => f 1 v20 v29 u30) := by
  unfold zWK
  rw [gf_129, show ((17 : Nat) : Int) = 17 from rfl, zjn_ok, if_neg (by omega), if_neg h, if_neg (by decide)]
set_option maxHeartbeats 400000 in
theorem v_line {μ : zMem} {T : Nat → Int} {n : Nat} (H : zTr μ T n) (f : Int → Int → Int → zMem → zRs) {u : zMem} {a : Nat} {v6 v7 : Int} (hu : zoV μ u) (ha : u 129 15 = a) (hf : u 129 17 = -1) (ho : u 129 18 = 0) (ha2 : a ≤ n) :
    (∀ g, zln (zgn T n) a = .inl g → ∃ u', zoV μ u' ∧ u' 129 17 = g ∧ zWB f v6 v7 1 u = f v6 v7 0 u') ∧
    ∀ a' l, zln (zgn T n) a = .inr (a', l) → ∃ v6' v7' u', zoV μ u' ∧ u' 129 15 = a' ∧ u' 129 17 = -1 ∧ u' 129 18 = 0 ∧ (v6 ≠ 0 → v6' = v6 ∧ v7' = v7) ∧ (v6 = 0 → (v6' = 1 ∧ zLc (μ 139) l (some v7')) ∨ (v6' = 0 ∧ v7' = v7 ∧ zLc (μ 139) l none)) ∧ zWB f v6 v7 1 u = zvc 11 129 (fX11_takes 129 59 u') (fun v29 u30 => f v6' v7' v29 u30) := by
  have hX := v_either H
  have hg := zgd_E (T := T) (zgd_O (T := T) (n := n) 6)
  obtain ⟨s1, s2⟩ := hX.1 u a hu ha hf ho ha2
  unfold zln
  cases e : zpX (zgn T n) a with
  | inl g =>
    refine ⟨fun g' h => ?_, fun a' l h => (by cases h)⟩
    cases h
    obtain ⟨v, u2, b1, b2, b3, b4, b5⟩ := s1 g e
    have ef : 0 ≤ u2 129 17 := by omega
    refine ⟨u2, b2, b3, ?_⟩
    rw [zWB_1 b1 (v_takes_f ef), if_pos rfl, zWK_f ef]
  | inr q =>
    obtain ⟨a', cs⟩ := q
    obtain ⟨t1, t2, -⟩ := (hg a ha2).2 a' cs e
    obtain ⟨v, u2, b1, b2, b3, b4, b5, b6⟩ := s2 a' cs e
    have hp := v_takes (w := 63) H b2 b3 t2 b4 (by decide)
    dsimp only
    by_cases c : zgn T n a' = 63
    · rw [if_pos c] at hp ⊢
      have haN := zgn_lt (T := T) (n := n) (a := a') (by omega)
      have hu3 := zoV_t b2 (zoV_15 (v := ((a' + 1 : Nat) : Int)))
      obtain ⟨x1, x2⟩ := hX.1 (zupd u2 129 15 ((a' + 1 : Nat) : Int)) (a' + 1) hu3 zu_eq ((zu_j (by decide)).trans b4) ((zu_j (by decide)).trans b5) (by omega)
      have e0 := zWB_1 (f := f) (v6 := v6) (v7 := v7) b1 hp
      rw [if_neg (by decide)] at e0
      cases e2 : zpX (zgn T n) (a' + 1) with
      | inl g =>
        refine ⟨fun g' h => ?_, fun a' l h => (by cases h)⟩
        cases h
        obtain ⟨w, u4, d1, d2, d3, d4, d5⟩ := x1 g e2
        refine ⟨u4, d2, d3, ?_⟩
        rw [e0, vq_129 d1, zWK_f (by omega)]
      | inr q =>
        obtain ⟨a'', ds⟩ := q
        obtain ⟨w, u4, d1, d2, d3, d4, d5, d6⟩ := x2 a'' ds e2
        rw [vq_129 d1] at e0
        refine ⟨fun g' h => (by cases h), fun x l h => ?_⟩
        cases h
        by_cases c6 : v6 = 0
        · by_cases cv : v = 0
          · rw [if_pos cv, zWK_0 d4 (Or.inl rfl)] at e0
            exact ⟨v6, v7, u4, d2, d3, d4, d5, fun _ => ⟨rfl, rfl⟩, fun _ => Or.inr ⟨c6, rfl, v, b6, Or.inr ⟨ds, rfl, Or.inr ⟨cv, rfl⟩⟩⟩, e0⟩
          · rw [if_neg cv, c6, zWK_1 d4 (by decide)] at e0
            refine ⟨1, w, u4, d2, d3, d4, d5, fun q => absurd c6 q, fun _ => Or.inl ⟨rfl, v, b6, Or.inr ⟨ds, rfl, Or.inl ⟨cv, w, rfl, d6⟩⟩⟩, ?_⟩
            rw [c6]
            exact e0
        · rw [zWK_0 d4 (Or.inr c6)] at e0
          exact ⟨v6, v7, u4, d2, d3, d4, d5, fun _ => ⟨rfl, rfl⟩, fun q => absurd q c6, e0⟩
    · rw [if_neg c] at hp ⊢
      have e0 := zWB_1 (f := f) (v6 := v6) (v7 := v7) b1 hp
      rw [if_pos rfl] at e0
      refine ⟨fun g' h => (by cases h), fun x l h => ?_⟩
      cases h
      by_cases c6 : v6 = 0
      · rw [c6, zWK_1 b4 (by decide)] at e0
        refine ⟨1, v, u2, b2, b3, b4, b5, fun q => absurd c6 q, fun _ => Or.inl ⟨rfl, v, b6, Or.inl ⟨rfl, rfl⟩⟩, ?_⟩
        rw [c6]
        exact e0
      · rw [zWK_0 b4 (Or.inr c6)] at e0
        exact ⟨v6, v7, u2, b2, b3, b4, b5, fun _ => ⟨rfl, rfl⟩, fun q => absurd q c6, e0⟩
set_option maxHeartbeats 400000 in
theorem v_lines {μ : zMem} {T : Nat → Int} {n : Nat} (H : zTr μ T n) {u : zMem} (hu : zoV μ u) (ha : u 129 15 = ((0 : Nat) : Int)) (hf : u 129 17 = -1) (ho : u 129 18 = 0) :
    (∀ g, ztl (zgn T n) n 120 0 = .inl g → ∃ r u', lX11_workOut_1 129 0 0 1 u = some (r, u') ∧ zoV μ u' ∧ u' 129 17 = g) ∧ ∀ Ls, ztl (zgn T n) n 120 0 = .inr Ls → ∃ r u', lX11_workOut_1 129 0 0 1 u = some (r, u') ∧ zoV μ u' ∧ u' 129 17 = -1 ∧ zLw (μ 139) 0 Ls r := by
  have h120 := H.2.2.1
  have stopf : ∀ (f : Int → Int → Int → zMem → zRs) (u : zMem) (v6 v7 : Int), 0 ≤ u 129 17 → zWB f v6 v7 0 u = some (v7, u) := fun f u v6 v7 q => by
    unfold zWB
    rw [if_pos rfl, gf_129, show ((17 : Nat) : Int) = 17 from rfl, if_pos q]
  have stop : ∀ (f : Int → Int → Int → zMem → zRs) (u : zMem) (v6 v7 : Int) (a : Nat), zoV μ u → u 129 15 = a → u 129 17 = -1 → (a < n → zWB f v6 v7 0 u = some (0, zupd u 129 17 a)) ∧ (¬ a < n → zWB f v6 v7 0 u = some (v7, u)) := fun f u v6 v7 a hu ha hf => by
    have q16 : u 129 16 = n := (hu _ _ (by omega)).trans H.2.1
    unfold zWB
    rw [if_pos rfl, gf_129, show ((17 : Nat) : Int) = 17 from rfl, if_neg (by omega), gf_129, show ((15 : Nat) : Int) = 15 from rfl, gf_129, show ((16 : Nat) : Int) = 16 from rfl, ha, q16]
    refine ⟨fun c => ?_, fun c => ?_⟩
    · rw [if_neg (by omega), vq_129 (v_wrong ha hf)]
    · rw [if_pos (by omega)]
  have key := zlp_meas (bot := fun (_ : Int) (_ : Int) (_ : Int) (_ : zMem) => (none : zRs)) (F := zWB)
    (fun m (f : Int → Int → Int → zMem → zRs) => (∀ k : Nat, k + 1 < m → ∀ (u : zMem) (a : Nat) (v6 v7 : Int), zoV μ u → u 129 15 = a → u 129 17 = -1 → u 129 18 = 0 → a ≤ n → 120 ≤ a + k →
      (∀ g, ztl (zgn T n) n k a = .inl g → ∃ r u', f v6 v7 1 u = some (r, u') ∧ zoV μ u' ∧ u' 129 17 = g) ∧ ∀ Ls, ztl (zgn T n) n k a = .inr Ls → ∃ r u', f v6 v7 1 u = some (r, u') ∧ zoV μ u' ∧ u' 129 17 = -1 ∧ (v6 ≠ 0 → r = v7) ∧ (v6 = 0 → zLw (μ 139) v7 Ls r)) ∧
      (0 < m → (∀ (u : zMem) (v6 v7 : Int), 0 ≤ u 129 17 → f v6 v7 0 u = some (v7, u)) ∧ ∀ (u : zMem) (v6 v7 : Int) (a : Nat), zoV μ u → u 129 15 = a → u 129 17 = -1 → (a < n → f v6 v7 0 u = some (0, zupd u 129 17 a)) ∧ (¬ a < n → f v6 v7 0 u = some (v7, u))))
    ⟨fun k h => absurd h (Nat.not_lt_zero _), fun h => absurd h (Nat.lt_irrefl _)⟩ (fun m f ih => ?_) 1000000
  · obtain ⟨r1, r2⟩ := key.1 120 (by omega) u 0 0 0 hu ha hf ho (Nat.zero_le _) (by omega)
    refine ⟨r1, fun Ls h => ?_⟩
    obtain ⟨r, u', q1, q2, q3, q4, q5⟩ := r2 Ls h
    exact ⟨r, u', q1, q2, q3, q5 rfl⟩
  · refine ⟨fun k hk u a v6 v7 hu ha hf ho ha2 hak => ?_, fun _ => ⟨stopf f, stop f⟩⟩
    obtain ⟨ihf, ihs⟩ := ih.2 (by omega)
    obtain ⟨x1, x2⟩ := v_line H f (v6 := v6) (v7 := v7) hu ha hf ho ha2
    cases e : zln (zgn T n) a with
    | inl g =>
      rw [ztl_l e]
      refine ⟨fun g' h => ?_, fun Ls h => (by cases h)⟩
      cases h
      obtain ⟨u', q1, q2, q3⟩ := x1 g e
      exact ⟨v7, u', q3.trans (ihf u' v6 v7 (by omega)), q1, q2⟩
    | inr q =>
      obtain ⟨a', l⟩ := q
      obtain ⟨t1, t2, t3⟩ := (zln_in (T := T) (n := n) (a := a) ha2).2 a' l e
      obtain ⟨w6, w7, u', b1, b2, b3, b4, b5, b6, b7⟩ := x2 a' l e
      have hp := v_takes (w := 59) H b1 b2 t3 b3 (by decide)
      by_cases c : zgn T n a' = 59
      · rw [if_pos c] at hp
        rw [vq_129 hp] at b7
        have haN := zgn_lt (T := T) (n := n) (a := a') (by omega)
        cases k with
        | zero => omega
        | succ k =>
          rw [ztl_m e c]
          obtain ⟨r1, r2⟩ := ih.1 k (by omega) (zupd u' 129 15 ((a' + 1 : Nat) : Int)) (a' + 1) w6 w7 (zoV_t b1 zoV_15) zu_eq ((zu_j (by decide)).trans b3) ((zu_j (by decide)).trans b4) (by omega) (by omega)
          cases e2 : ztl (zgn T n) n k (a' + 1) with
          | inl g =>
            refine ⟨fun g' h => ?_, fun Ls h => (by cases h)⟩
            cases h
            obtain ⟨r, u4, q1, q2⟩ := r1 g e2
            exact ⟨r, u4, b7.trans q1, q2⟩
          | inr Ls =>
            refine ⟨fun g' h => (by cases h), fun Ms h => ?_⟩
            cases h
            obtain ⟨r, u4, q1, q2, q3, q4, q5⟩ := r2 Ls e2
            refine ⟨r, u4, b7.trans q1, q2, q3, fun z => ?_, fun z => ?_⟩
            · obtain ⟨z1, z2⟩ := b5 z
              rw [← z2]
              exact q4 (by rw [z1]; exact z)
            · rcases b6 z with ⟨z1, z2⟩ | ⟨z1, z2, z3⟩
              · have := q4 (by rw [z1]; decide)
                rw [this]
                exact Or.inl z2
              · have := q5 z1
                rw [z2] at this
                exact Or.inr ⟨z3, this⟩
      · rw [if_neg c] at hp
        rw [vq_129 hp] at b7
        rw [ztl_e e c]
        obtain ⟨y1, y2⟩ := ihs u' w6 w7 a' b1 b2 b3
        by_cases z : a' < n
        · rw [if_pos z]
          refine ⟨fun g' h => ?_, fun Ls h => (by cases h)⟩
          cases h
          exact ⟨0, _, b7.trans (y1 z), zoV_t b1 zoV_17, zu_eq⟩
        · rw [if_neg z]
          refine ⟨fun g' h => (by cases h), fun Ms h => ?_⟩
          cases h
          refine ⟨w7, u', b7.trans (y2 z), b1, b3, fun q => (b5 q).2, fun q => ?_⟩
          rcases b6 q with ⟨z1, z2⟩ | ⟨z1, z2, z3⟩
          · exact Or.inl z2
          · exact Or.inr ⟨z3, z2⟩
