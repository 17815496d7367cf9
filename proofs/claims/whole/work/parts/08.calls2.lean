section ZCALL2
variable {G : Prop} {p : Program} {l : Launch} {e : Env} {R : Room} {s : State} {m : MethodId} {args : Array Value} {below : List Frame} {meth : Method} {c : Code} {w : zW} {own : String} {cc : ByteArray} {nL n0 D rk : Nat} {ret : Option FieldType} {Q : Int → zMem → State → Prop} {pc pc' : Nat} {la : List (Nat × zV)} {st : List zV} {μ : zMem} {t : zRs}
def zpush (rk : Nat) (r : Int) (rest : List zV) : List zV := match rk with
  | 0 => rest
  | 1 => zI r :: rest
  | 2 => zL r :: rest
  | _ => zR r :: rest
theorem zpush_R {rk n : Nat} {r : Int} {v : Option Value} {rest : List zV} {rc : List Value} (h : zret w rk n r v) (hr : zsR w n rest rc) : zsR w n (zpush rk r rest) (v.toList ++ rc) := by
  unfold zret at h
  unfold zpush
  split at h
  · subst h; exact hr
  · obtain ⟨x, rfl, hx⟩ := h; exact ⟨hx, hr⟩
  · obtain ⟨x, rfl, hx⟩ := h; exact ⟨hx, hr⟩
  · obtain ⟨x, rfl, hx⟩ := h
    split
    · exact absurd rfl (by assumption)
    · exact absurd rfl (by assumption)
    · exact absurd rfl (by assumption)
    · exact ⟨hx, hr⟩
theorem zsR_app {n : Nat} : ∀ {xs ys : List zV} {vs : List Value}, zsR w n (xs ++ ys) vs → ∃ v1 v2, vs = v1 ++ v2 ∧ zsR w n xs v1 ∧ zsR w n ys v2
  | [], _, vs, h => ⟨[], vs, rfl, trivial, h⟩
  | _ :: _, _, [], h => h.elim
  | _ :: _, _, v :: _, h => by
    obtain ⟨v1, v2, rfl, h1, h2⟩ := zsR_app h.2
    exact ⟨v :: v1, v2, rfl, ⟨h.1, h1⟩, h2⟩
theorem zsR_cat {n : Nat} : ∀ {xs ys : List zV} {v1 v2 : List Value}, zsR w n xs v1 → zsR w n ys v2 → zsR w n (xs ++ ys) (v1 ++ v2)
  | [], _, [], _, _, h => h
  | [], _, _ :: _, _, h, _ => h.elim
  | _ :: _, _, [], _, h, _ => h.elim
  | _ :: _, _, _ :: _, _, h, h2 => ⟨h.1, zsR_cat h.2 h2⟩
theorem zsR_rev {n : Nat} : ∀ {xs : List zV} {vs : List Value}, zsR w n xs vs → zsR w n xs.reverse vs.reverse
  | [], [], _ => trivial
  | [], _ :: _, h => h.elim
  | _ :: _, [], h => h.elim
  | _ :: _, _ :: _, h => by
    rw [List.reverse_cons, List.reverse_cons]
    exact zsR_cat (zsR_rev h.2) ⟨h.1, trivial⟩
theorem zsR_len {n : Nat} : ∀ {xs : List zV} {vs : List Value}, zsR w n xs vs → vs.length = xs.length
  | [], [], _ => rfl
  | [], _ :: _, h => h.elim
  | _ :: _, [], h => h.elim
  | _ :: _, _ :: _, h => congrArg (· + 1) (zsR_len h.2)
theorem zsR_sum {n : Nat} : ∀ {xs : List zV} {vs : List Value}, zsR w n xs vs → (vs.map fun v => v.category).sum = zwd xs
  | [], [], _ => rfl
  | [], _ :: _, h => h.elim
  | _ :: _, [], h => h.elim
  | x :: _, v :: _, h => by
    rw [List.map_cons, List.sum_cons, zsR_sum h.2, zrv_cat h.1]
    rfl
theorem zcall_some {o : zRs} {k : Int → zMem → zRs} {r : Int} {μ' : zMem} (h : zcall o k = some (r, μ')) : ∃ r1 μ1, o = some (r1, μ1) ∧ k r1 μ1 = some (r, μ') := by
  unfold zcall at h
  cases o with
  | none => cases h
  | some q => exact ⟨q.1, q.2, rfl, h⟩
theorem zblind {Ac : List Value} : FrameBlind (va_Pc Ac (fun U => zRep w μ U.heap ∧ zKn w U)) := fun a U g mk q => ⟨q.1, q.2.1, zKn.same (u := U) (U := U.calling g mk a) rfl q.2.2⟩
/-- what a run of a callee gives -/
theorem zrun_use {rk' : Nat} {r1 : Int} {μ1 : zMem} {rest : List zV} {rc : List Value} {sc0 : List Value} {aa : Array Value} {H : Heap} {locs : List Loc} {ls : Array Slot} {r : Int} {μ' : zMem} (hm1 : znc μ ≤ znc μ1)
    (hrun : va_Run p l e R s m args below meth c H locs (znc μ - n0) (zps (znc μ) - zps n0) (znc μ1 - znc μ) (zps (znc μ1) - zps (znc μ)) (F0 m pc ls sc0) rc (zQ w rk' r1 μ1 aa) (fun q => w.1 ≤ q))
    (hG : G) (h2 : G → ∀ (H : Heap) (locs : List Loc) (ls : Array Slot) (sc : List Value), zRep w μ1 H → zlR w (znc μ1) nL la ls → zsR w (znc μ1) (zpush rk' r1 rest) sc → (∀ q ∈ locs, w.1 ≤ q.base) → n0 ≤ znc μ1 → znc μ' - n0 ≤ R.cells → zps (znc μ') - zps n0 ≤ R.slots →
      W p l e R s m args below meth c H locs (znc μ1 - n0) (zps (znc μ1) - zps n0) (Q r μ') (F0 m (pc + 3) ls sc))
    (hL : zlR w (znc μ) nL la ls) (hr : zsR w (znc μ) rest rc) (h3 : ∀ q ∈ locs, w.1 ≤ q.base) (h4 : n0 ≤ znc μ) (h5 : znc μ' - n0 ≤ R.cells) (h6 : zps (znc μ') - zps n0 ≤ R.slots) :
    W p l e R s m args below meth c H locs (znc μ - n0) (zps (znc μ) - zps n0) (Q r μ') (F0 m pc ls sc0) := by
  intro T hT X
  obtain ⟨v, st₀, t, T', L, e0, X', hLq, e1, e2, ⟨v', ev, hret, hrep⟩, st⟩ := hrun T hT X
  cases ev
  have hp1 := zps_mono h4
  have hp2 := zps_mono hm1
  obtain ⟨t2, a1, b1⟩ := h2 hG t.heap (locs ++ L) ls (v.toList ++ rc) hrep (zlR_mono hm1 hL) (zpush_R hret (zsR_mono hm1 hr)) (fun q hq => by
    rcases List.mem_append.mp hq with h | h
    · exact h3 q h
    · exact hLq q h) (by omega) h5 h6 T' e1 (by
    have g1 : znc μ - n0 + (znc μ1 - znc μ) = znc μ1 - n0 := by omega
    have g2 : zps (znc μ) - zps n0 + (zps (znc μ1) - zps (znc μ)) = zps (znc μ1) - zps n0 := by omega
    rw [← g1, ← g2]
    exact X')
  exact ⟨t2, st t2 a1, b1⟩
/-- links of calls: to a method of an object's class; to a class's own; to a constructor -/
def zLC (y : MethodName) (b : ByteArray) (nLy : Nat) (rety : Option FieldType) (n : Nat) : Prop := Cond.code y b nLy rety ∈ zwt ∧ Cond.initialized y.cls ∈ zwt ∧ nLy ≤ 41 ∧ (y.cls ≠ "java/lang/invoke/MethodHandle" ∧ y.cls ≠ "java/lang/invoke/VarHandle") ∧ (parseMethodDescriptor y.desc).map (fun d => d.parameters.length) = some n
def zLV (own : String) (idx ci : Nat) (y : MethodName) : Prop := Cond.methodLink own idx y ∈ zwt ∧ Cond.instanceMethod y ∈ zwt ∧ Cond.selects y.cls y y ∈ zwt ∧ ∃ T N, vwCl[ci]? = some (y.cls, T, N)
def zLS (own : String) (idx : Nat) (y : MethodName) : Prop := Cond.methodLink own idx y ∈ zwt ∧ Cond.static y ∈ zwt
def zLI (own : String) (idx : Nat) (y : MethodName) : Prop := Cond.methodLink own idx y ∈ zwt ∧ Cond.instanceMethod y ∈ zwt ∧ y.name = "<init>"
def zLN (own : String) (idx : Nat) (y : MethodName) (host : String) : Prop := (own, idx, y, host) ∈ zxn ∧ Cond.instanceMethod y ∈ zwt ∧ y.name = "<init>"
theorem zgoodC {y : MethodName} {b : ByteArray} {nLy : Nat} {rety : Option FieldType} (h : Cond.code y b nLy rety ∈ zwt) : GoodIn zwt (.code y b nLy rety :: zwt) := fun z hz => by
  rcases List.mem_cons.mp hz with rfl | hz
  · exact zgood _ h
  · exact zgood _ hz
theorem z_callV {rk' : Nat} {idx ci : Nat} {y : MethodName} {b : ByteArray} {nLy : Nat} {rety : Option FieldType} {n d : Nat} {a : Int} {As rest : List zV} {o : zRs} {k : Int → zMem → zRs} (C : G → zCx w own cc nL ret D R p s m args meth c)
    (hl : zLV own idx ci y) (hlc : zLC y b nLy rety n) (hn : As.length = n) (hd : decode cc pc = .ok (.invokevirtual idx, 3)) (hpc : pc + 3 = pc') (hdD : d < D) (hS : zSpc l w d y b nLy rety rk' (zR a :: As) μ o) (hst : st = As.reverse ++ zR a :: rest) (hsum : zwd rest ≤ 8)
    (K : ∀ r μ', zSim G p l e R s m args below meth c w nL n0 Q pc' la (zpush rk' r rest) μ' (k r μ')) : zSim G p l e R s m args below meth c w nL n0 Q pc la st μ (zvc ci a o k) := by
  subst hpc
  subst hst
  unfold zvc
  split
  rotate_left
  · exact fun _ _ h => by cases h
  rename_i hci
  intro r μ' ht
  obtain ⟨r1, μ1, ho, hk⟩ := zcall_some ht
  obtain ⟨q1, q2⟩ := hS r1 μ1 ho
  have hm1 := q1 p e R s m args below meth c
  obtain ⟨g1, g2⟩ := K r1 μ1 r μ' hk
  refine ⟨Nat.le_trans hm1 g1, fun hG H locs ls sc hR hL hSt h3 h4 h5 h6 => ?_⟩
  obtain ⟨vr, sc2, rfl, hvr, hU⟩ := zsR_app hSt
  obtain ⟨va, rc, rfl, hva, hrc⟩ := zsR_cons hU
  have hAs : zsR w (znc μ) As vr.reverse := by have := zsR_rev hvr; rwa [List.reverse_reverse] at this
  obtain ⟨kk, cell, rfl, hkn, hkd, rfl, hcell, hz⟩ := zobj hR hva hci
  obtain ⟨l1, l2, l3, T, N, hcl⟩ := hl
  obtain ⟨c1, c2, c3, c4, c5⟩ := hlc
  have hci12 : ci < 12 := (List.getElem?_eq_some_iff.mp hcl).1
  have hcx := C hG
  have hM := q2 (.ref (w.1 + kk) :: vr.reverse) ⟨hva, hAs⟩
  have hcls := ((hcx.2.2.2.2.2.2.2.1.2.1).1 ci _ hcl).2.1
  have hp1 := zps_mono h4
  have hp2 := zps_mono hm1
  have hp3 := zps_mono g1
  have hrun := va_runV (p := p) (e := e) (R := R) (below := below) (meth := meth) (locs := locs) (cells := znc μ - n0) (slots := zps (znc μ) - zps n0) (g := F0 m pc ls (vr ++ .ref (w.1 + kk) :: rc)) (As := vr.reverse) (b := w.1 + kk) (rest := rc) (index := idx) (Ts := zwt) (own := own) (C := y.cls) (H := H) (nL := nL) (n := n) (bytes := b) (maxL := nLy) (ret := rety)
    ⟨hcx.1, hcx.2.1, hcx.2.2.1, hcx.2.2.2.1, hcx.2.2.2.2.1⟩ hM
    (cwV n hcx.2.2.2.2.1 (fun z hz => by
      simp only [wsV, List.cons_append, List.nil_append, List.mem_cons] at hz
      rcases hz with rfl | rfl | rfl | rfl | rfl | hz
      · exact zgood _ l1
      · exact zgood _ l2
      · exact zgood _ l3
      · exact zgood _ c2
      · exact zgood _ c1
      · exact zgood _ hz) rfl rfl rfl ⟨rfl, c4.1, c4.2, c5⟩ ⟨by have := hcx.2.2.2.2.2.2.2.2.1; show d + 1 ≤ _; omega, by have := hcx.2.2.2.2.2.2.2.2.2; show 8 + (nLy + 11) + 60 * d ≤ _; omega⟩)
    ⟨zblind, ⟨cell, hcell, by rw [hz.1]; rfl, by rw [hcls, (hz.2.1 (by omega)).1, hkd]⟩, fun U hU hW => ⟨rfl, by rw [hU]; exact hR, zKn.moved hW hcx.2.2.2.2.2.2.2.1⟩⟩
    rfl (by rw [List.length_reverse, zsR_len hvr, List.length_reverse, hn]) (zlR_size hL) (by rw [List.reverse_reverse]) (by show 2 * 0 + _ ≤ 8; rw [zsR_sum hrc]; omega) hd ⟨by omega, by omega⟩
  exact zrun_use hm1 hrun hG g2 hL hrc h3 h4 h5 h6
theorem z_callS {rk' : Nat} {idx : Nat} {y : MethodName} {b : ByteArray} {nLy : Nat} {rety : Option FieldType} {n d : Nat} {As rest : List zV} {o : zRs} {k : Int → zMem → zRs} (C : G → zCx w own cc nL ret D R p s m args meth c)
    (hl : zLS own idx y) (hlc : zLC y b nLy rety n) (hn : As.length = n) (hd : decode cc pc = .ok (.invokestatic idx, 3)) (hpc : pc + 3 = pc') (hdD : d < D) (hS : zSpc l w d y b nLy rety rk' As μ o) (hst : st = As.reverse ++ rest) (hsum : zwd rest ≤ 8)
    (K : ∀ r μ', zSim G p l e R s m args below meth c w nL n0 Q pc' la (zpush rk' r rest) μ' (k r μ')) : zSim G p l e R s m args below meth c w nL n0 Q pc la st μ (zcall o k) := by
  subst hpc
  subst hst
  intro r μ' ht
  obtain ⟨r1, μ1, ho, hk⟩ := zcall_some ht
  obtain ⟨q1, q2⟩ := hS r1 μ1 ho
  have hm1 := q1 p e R s m args below meth c
  obtain ⟨g1, g2⟩ := K r1 μ1 r μ' hk
  refine ⟨Nat.le_trans hm1 g1, fun hG H locs ls sc hR hL hSt h3 h4 h5 h6 => ?_⟩
  obtain ⟨vr, rc, rfl, hvr, hrc⟩ := zsR_app hSt
  have hAs : zsR w (znc μ) As vr.reverse := by have := zsR_rev hvr; rwa [List.reverse_reverse] at this
  obtain ⟨l1, l2⟩ := hl
  obtain ⟨c1, c2, c3, c4, c5⟩ := hlc
  have hcx := C hG
  have hM := q2 vr.reverse hAs
  have hp1 := zps_mono h4
  have hp2 := zps_mono hm1
  have hp3 := zps_mono g1
  have hw := hcx.2.2.2.2.1
  have hrun := va_runS (p := p) (e := e) (R := R) (below := below) (meth := meth) (locs := locs) (cells := znc μ - n0) (slots := zps (znc μ) - zps n0) (g := F0 m pc ls (vr ++ rc)) (As := vr.reverse) (rest := rc) (index := idx) (Ts := zwt) (own := own) (H := H) (nL := nL) (n := n) (bytes := b) (maxL := nLy) (ret := rety)
    ⟨hcx.1, hcx.2.1, hcx.2.2.1, hcx.2.2.2.1, hcx.2.2.2.2.1⟩ hM
    ⟨callB_of n hw (zgoodC c1) rfl rfl rfl (hw _ c2) (hw _ l1) ⟨c4.1, c4.2, c5⟩ ⟨by have := hcx.2.2.2.2.2.2.2.2.1; show d + 1 ≤ _; omega, by have := hcx.2.2.2.2.2.2.2.2.2; show 8 + (nLy + 11) + 60 * d ≤ _; omega⟩, hw _ l2⟩
    ⟨zblind, fun U hU hW => ⟨rfl, by rw [hU]; exact hR, zKn.moved hW hcx.2.2.2.2.2.2.2.1⟩⟩
    rfl (by rw [List.length_reverse, zsR_len hvr, List.length_reverse, hn]) (zlR_size hL) (by rw [List.reverse_reverse]) (by show 2 * 0 + _ ≤ 8; rw [zsR_sum hrc]; omega) hd ⟨by omega, by omega⟩
  exact zrun_use hm1 hrun hG g2 hL hrc h3 h4 h5 h6
/-- a constructor, of an object just made (not null) -/
def zic (a : Int) (o : zRs) (k : Int → zMem → zRs) : zRs := if 0 ≤ a then zcall o k else none
theorem z_callI {idx : Nat} {y : MethodName} {b : ByteArray} {nLy n d : Nat} {a : Int} {As rest : List zV} {o : zRs} {k : Int → zMem → zRs} (C : G → zCx w own cc nL ret D R p s m args meth c)
    (hl : zLI own idx y) (hlc : zLC y b nLy none n) (hn : As.length = n) (hd : decode cc pc = .ok (.invokespecial idx, 3)) (hpc : pc + 3 = pc') (hdD : d < D) (hS : zSpc l w d y b nLy none 0 (zR a :: As) μ o) (hst : st = As.reverse ++ zR a :: rest) (hsum : zwd rest ≤ 8)
    (K : ∀ r μ', zSim G p l e R s m args below meth c w nL n0 Q pc' la rest μ' (k r μ')) : zSim G p l e R s m args below meth c w nL n0 Q pc la st μ (zic a o k) := by
  subst hpc
  subst hst
  unfold zic
  split
  rotate_left
  · exact fun _ _ h => by cases h
  rename_i ha0
  intro r μ' ht
  obtain ⟨r1, μ1, ho, hk⟩ := zcall_some ht
  obtain ⟨q1, q2⟩ := hS r1 μ1 ho
  have hm1 := q1 p e R s m args below meth c
  obtain ⟨g1, g2⟩ := K r1 μ1 r μ' hk
  refine ⟨Nat.le_trans hm1 g1, fun hG H locs ls sc hR hL hSt h3 h4 h5 h6 => ?_⟩
  obtain ⟨vr, sc2, rfl, hvr, hU⟩ := zsR_app hSt
  obtain ⟨va, rc, rfl, hva, hrc⟩ := zsR_cons hU
  have hAs : zsR w (znc μ) As vr.reverse := by have := zsR_rev hvr; rwa [List.reverse_reverse] at this
  have hva0 := hva
  obtain ⟨ad, rfl⟩ : ∃ ad, va = .ref ad := by
    rcases hva with ⟨h1, -⟩ | ⟨k, -, -, rfl⟩
    · omega
    · exact ⟨_, rfl⟩
  obtain ⟨l1, l2, l3⟩ := hl
  obtain ⟨c1, c2, c3, c4, c5⟩ := hlc
  have hcx := C hG
  have hM := q2 (.ref ad :: vr.reverse) ⟨hva0, hAs⟩
  have hp1 := zps_mono h4
  have hp2 := zps_mono hm1
  have hp3 := zps_mono g1
  have hw := hcx.2.2.2.2.1
  have hrun := va_runI (p := p) (e := e) (R := R) (below := below) (meth := meth) (locs := locs) (cells := znc μ - n0) (slots := zps (znc μ) - zps n0) (g := F0 m pc ls (vr ++ .ref ad :: rc)) (As := vr.reverse) (b := ad) (rest := rc) (index := idx) (Ts := zwt) (own := own) (H := H) (nL := nL) (n := n) (bytes := b) (maxL := nLy)
    ⟨hcx.1, hcx.2.1, hcx.2.2.1, hcx.2.2.2.1, hcx.2.2.2.2.1⟩ hM
    (cwI n hw (zgoodC c1) rfl rfl rfl (hw _ c2) (hw _ l1) (hw _ l2) l3 ⟨c4.1, c4.2, c5⟩ ⟨by have := hcx.2.2.2.2.2.2.2.2.1; show d + 1 ≤ _; omega, by have := hcx.2.2.2.2.2.2.2.2.2; show 8 + (nLy + 11) + 60 * d ≤ _; omega⟩)
    ⟨zblind, fun U hU hW => ⟨rfl, by rw [hU]; exact hR, zKn.moved hW hcx.2.2.2.2.2.2.2.1⟩⟩
    rfl (by rw [List.length_reverse, zsR_len hvr, List.length_reverse, hn]) (zlR_size hL) (by rw [List.reverse_reverse]) (by show 2 * 0 + _ ≤ 8; rw [zsR_sum hrc]; omega) hd ⟨by omega, by omega⟩
  exact zrun_use (rk' := 0) (rest := rest) hm1 hrun hG g2 hL hrc h3 h4 h5 h6
theorem z_callN {idx : Nat} {y : MethodName} {host : String} {b : ByteArray} {nLy n d : Nat} {a : Int} {As rest : List zV} {o : zRs} {k : Int → zMem → zRs} (C : G → zCx w own cc nL ret D R p s m args meth c)
    (hl : zLN own idx y host) (hlc : zLC y b nLy none n) (hn : As.length = n) (hd : decode cc pc = .ok (.invokespecial idx, 3)) (hpc : pc + 3 = pc') (hdD : d < D) (hS : zSpc l w d y b nLy none 0 (zR a :: As) μ o) (hst : st = As.reverse ++ zR a :: rest) (hsum : zwd rest ≤ 8)
    (K : ∀ r μ', zSim G p l e R s m args below meth c w nL n0 Q pc' la rest μ' (k r μ')) : zSim G p l e R s m args below meth c w nL n0 Q pc la st μ (zic a o k) := by
  subst hpc
  subst hst
  unfold zic
  split
  rotate_left
  · exact fun _ _ h => by cases h
  rename_i ha0
  intro r μ' ht
  obtain ⟨r1, μ1, ho, hk⟩ := zcall_some ht
  obtain ⟨q1, q2⟩ := hS r1 μ1 ho
  have hm1 := q1 p e R s m args below meth c
  obtain ⟨g1, g2⟩ := K r1 μ1 r μ' hk
  refine ⟨Nat.le_trans hm1 g1, fun hG H locs ls sc hR hL hSt h3 h4 h5 h6 => ?_⟩
  obtain ⟨vr, sc2, rfl, hvr, hU⟩ := zsR_app hSt
  obtain ⟨va, rc, rfl, hva, hrc⟩ := zsR_cons hU
  have hAs : zsR w (znc μ) As vr.reverse := by have := zsR_rev hvr; rwa [List.reverse_reverse] at this
  have hva0 := hva
  obtain ⟨ad, rfl⟩ : ∃ ad, va = .ref ad := by
    rcases hva with ⟨h1, -⟩ | ⟨k, -, -, rfl⟩
    · omega
    · exact ⟨_, rfl⟩
  obtain ⟨l1, l2, l3⟩ := hl
  obtain ⟨c1, c2, c3, c4, c5⟩ := hlc
  have hcx := C hG
  have hM := q2 (.ref ad :: vr.reverse) ⟨hva0, hAs⟩
  have hp1 := zps_mono h4
  have hp2 := zps_mono hm1
  have hp3 := zps_mono g1
  have hw := hcx.2.2.2.2.1
  have hrun := va_runIN (p := p) (e := e) (R := R) (below := below) (meth := meth) (locs := locs) (cells := znc μ - n0) (slots := zps (znc μ) - zps n0) (g := F0 m pc ls (vr ++ .ref ad :: rc)) (As := vr.reverse) (b := ad) (rest := rc) (index := idx) (Ts := zwt) (own := own) (host := host) (H := H) (nL := nL) (n := n) (bytes := b) (maxL := nLy)
    ⟨hcx.1, hcx.2.1, hcx.2.2.1, hcx.2.2.2.1, hcx.2.2.2.2.1⟩ hM
    ⟨va_cnB n hw (zgoodC c1) rfl rfl rfl (hcx.2.2.2.2.2.2.2.1.2.2.2.2.2 _ l1) (hw _ c2) ⟨c4.1, c4.2, c5⟩ ⟨by have := hcx.2.2.2.2.2.2.2.2.1; show d + 1 ≤ _; omega, by have := hcx.2.2.2.2.2.2.2.2.2; show 8 + (nLy + 11) + 60 * d ≤ _; omega⟩, l3, hw _ l2⟩
    ⟨zblind, fun U hU hW => ⟨rfl, by rw [hU]; exact hR, zKn.moved hW hcx.2.2.2.2.2.2.2.1⟩⟩
    rfl (by rw [List.length_reverse, zsR_len hvr, List.length_reverse, hn]) (zlR_size hL) (by rw [List.reverse_reverse]) (by show 2 * 0 + _ ≤ 8; rw [zsR_sum hrc]; omega) hd ⟨by omega, by omega⟩
  exact zrun_use (rk' := 0) (rest := rest) hm1 hrun hG g2 hL hrc h3 h4 h5 h6
theorem z_objinit {idx : Nat} {a : Int} (C : G → zCx w own cc nL ret D R p s m args meth c) (h1 : Cond.methodLink own idx Lib.objectInit ∈ zwt) (h2 : Cond.instanceMethod Lib.objectInit ∈ zwt) (h3 : Cond.code Lib.objectInit ⟨#[0xb1]⟩ 1 none ∈ zwt) (hd : decode cc pc = .ok (.invokespecial idx, 3)) (hpc : pc + 3 = pc') (hD : 1 ≤ D) (hsum : zwd st ≤ 8)
    (K : zSim G p l e R s m args below meth c w nL n0 Q pc' la st μ t) : zSim G p l e R s m args below meth c w nL n0 Q pc la (zR a :: st) μ (if 0 ≤ a then t else none) := by
  subst hpc
  split
  rotate_left
  · exact fun _ _ h => by cases h
  rename_i ha
  refine zstep (fun hG H locs cells slots QQ ls sc hL hS kk => ?_) K
  have hcx := C hG
  obtain ⟨v, sc, rfl, hv, hT⟩ := zsR_cons hS
  have hw := hcx.2.2.2.2.1
  have hfr := hcx.2.2.2.2.2.2.2.2.1
  have hlo := hcx.2.2.2.2.2.2.2.2.2
  rcases hv with ⟨h0, -⟩ | ⟨q, h0, hq, rfl⟩
  · omega
  · exact W.objInit hcx.1 hcx.2.1 hcx.2.2.2.1 (hw _ h1) (hw _ h2) (hw _ h3) rfl (by rw [hcx.2.2.1]; exact zlR_size hL) rfl hd (by omega) (by show 2 * 0 + _ + 12 ≤ _; rw [zsR_sum hT]; omega) (kk _ _ hL hT)
/-! ### System.arraycopy -/
def zcpm (μ : zMem) (a i b j n : Int) : zMem := fun a' j' => if a' = b ∧ j ≤ j' ∧ j' < j + n then μ a (i + (j' - j)) else μ a' j'
def zcopy (kd : Nat) (a i b j n : Int) (μ : zMem) (k : zMem → zRs) : zRs :=
  if 1 ≤ a ∧ 5 ≤ b ∧ (zshp a.toNat).1 = kd ∧ (zshp b.toNat).1 = kd ∧ 0 ≤ i ∧ 0 ≤ j ∧ 0 ≤ n ∧ i + n ≤ ((zshp a.toNat).2 : Int) ∧ j + n ≤ ((zshp b.toNat).2 : Int) then k (zcpm μ a i b j n) else none
theorem z_copy {kd idx : Nat} {a i b j n : Int} {k : zMem → zRs} (C : G → zCx w own cc nL ret D R p s m args meth c) (hkd : kd = 20 ∨ kd = 21) (h1 : Cond.methodLink own idx arraycopyName ∈ zwt) (h2 : Cond.native arraycopyName ∈ zwt) (h2s : Cond.static arraycopyName ∈ zwt) (h3 : Cond.initialized "java/lang/System" ∈ zwt) (hd : decode cc pc = .ok (.invokestatic idx, 3)) (hpc : pc + 3 = pc') (hD : 1 ≤ D) (hsum : zwd st ≤ 8)
    (K : ∀ μ', zSim G p l e R s m args below meth c w nL n0 Q pc' la st μ' (k μ')) : zSim G p l e R s m args below meth c w nL n0 Q pc la (zI n :: zI j :: zR b :: zI i :: zR a :: st) μ (zcopy kd a i b j n μ k) := by
  subst hpc
  unfold zcopy
  split
  rotate_left
  · exact fun _ _ h => by cases h
  rename_i hc
  obtain ⟨c1, c2, c3, c4, c5, c6, c7, c8, c9⟩ := hc
  intro r μ' ht
  obtain ⟨g1, g2⟩ := K _ r μ' ht
  have hnc : znc (zcpm μ a i b j n) = znc μ := by
    unfold znc zcpm
    rw [if_neg (by omega)]
  rw [hnc] at g1 g2
  refine ⟨g1, fun hG H locs ls sc hR hL hS h3' h4 h5 h6 => ?_⟩
  have hcx := C hG
  have hw := hcx.2.2.2.2.1
  have hfr := hcx.2.2.2.2.2.2.2.2.1
  have hlo := hcx.2.2.2.2.2.2.2.2.2
  obtain ⟨_, sc, rfl, ⟨nc, rfl, hnn⟩, hS1⟩ := zsR_cons hS
  obtain ⟨_, sc, rfl, ⟨jc, rfl, hjj⟩, hS2⟩ := zsR_cons hS1
  obtain ⟨vb, sc, rfl, hvb, hS3⟩ := zsR_cons hS2
  obtain ⟨_, sc, rfl, ⟨ic, rfl, hii⟩, hS4⟩ := zsR_cons hS3
  obtain ⟨va, sc, rfl, hva, hT⟩ := zsR_cons hS4
  obtain ⟨qa, ca, rfl, rfl, a1, a2, a3, a4, a5, -⟩ := zarr hcx.2.2.2.2.2.2.2.1 hR hva c1 c3 (by omega) (by omega)
  obtain ⟨qb, cb, rfl, rfl, b1, b2, b3, b4, b5, b6⟩ := zarr hcx.2.2.2.2.2.2.2.1 hR hvb (by omega) c4 (by omega) (by omega)
  obtain ⟨kb, rfl, hkb, had, b7, b8, b9⟩ := b6 (by omega)
  have c8' : i + n ≤ ((zshp qa).2 : Int) := c8
  have c9' : j + n ≤ ((zshp (5 + kb)).2 : Int) := c9
  have c4' : (zshp (5 + kb)).1 = kd := c4
  have hk20 : 20 ≤ kd := by rcases hkd with rfl | rfl <;> decide
  have hk26 : kd ≤ 26 := by rcases hkd with rfl | rfl <;> decide
  have hza := fun (z : ClassId) (h : ca.vm = .statics z) => a2.1 z h
  clear c3 c4 c8 c9
  obtain ⟨-, ka, hka, cma, hkka⟩ := a2
  obtain ⟨-, kb', hkb', cmb, hkkb⟩ := b2
  have hrk : refKind (zat kd) = false := by rcases hkd with rfl | rfl <;> rfl
  have ea : ic.toNatClampNeg = i.toNat := by rw [← hii]; rfl
  have eb : jc.toNatClampNeg = j.toNat := by rw [← hjj]; rfl
  have en : nc.toNatClampNeg = n.toNat := by rw [← hnn]; rfl
  have nn : ∀ {z : Int32} {x : Int}, z.toInt = x → 0 ≤ x → ¬ z < 0 := fun {z x} hz hx h => by
    have := Int32.lt_iff_toInt_lt.mp h
    rw [Int32.toInt_zero] at this
    omega
  rw [had] at b1
  have hnat : nativeFrameWords "java/lang/System" "arraycopy" 5 = 7 := by decide +kernel
  intro T hT0 X
  have hstep := X.arraycopy hcx.1 (own := own) (index := idx) hcx.2.2.2.1 (hw _ h1) (hw _ h2) (hw _ h2s) (hw _ h3) (src := zad w qa) (dst := w.1 + kb) (cs := ca) (cd := cb) (srcPos := ic) (destPos := jc) (n := nc) (by rw [hT0]; exact a1) (by rw [hT0]; exact b1)
    (fun z h => ?_) (fun z h => by rw [b7] at h; cases h) a3 b3 hka hkb' hkka hkkb (by simp [hrk]) (nn hii c5) (nn hjj c6) (nn hnn c7) (by rw [hii, hnn]; have := a4.1; omega) (by rw [hjj, hnn]; have := b4.1; omega)
    (fun vm₁ _ x hx => ?_) (g := F0 m pc ls (.int nc :: .int jc :: .ref (w.1 + kb) :: .int ic :: .ref (zad w qa) :: sc)) rfl (by rw [hcx.2.2.1]; exact zlR_size hL) (rest := sc) rfl (by rw [hcx.2.1]; exact hd) (by omega) (by rw [hnat]; show 2 * 0 + _ + (7 + 11) ≤ _; rw [zsR_sum hT]; omega)
  · obtain ⟨vm', X', step⟩ := hstep
    have hbl : w.1 + kb < H.size := (Array.getElem?_eq_some_iff.mp b1).1
    have hh : ((T.setVm vm').setCell (w.1 + kb) (copied ca cb ic jc nc)).heap = H.setIfInBounds (w.1 + kb) (copied ca cb ic jc nc) := by rw [← hT0]; rfl
    have hrep : zRep w (zcpm μ (qa : Int) i ((5 + kb : Nat) : Int) j n) (H.setIfInBounds (w.1 + kb) (copied ca cb ic jc nc)) := by
      refine zRep_row hR hkb (cell' := copied ca cb ic jc nc) (by simp [hbl]) (by simp) (fun q hq => by simp [Array.getElem?_setIfInBounds, Ne.symm hq]) hnc (fun x y hx _ => ?_) ?_
      · unfold zcpm
        rw [if_neg (fun q => hx q.1)]
      · obtain ⟨f1, f2, f3, -⟩ := Cell.storeRun_facts cb j.toNat (ca.stretch i.toNat n.toNat)
        obtain ⟨z1, z2, z3⟩ := b9
        obtain ⟨y1, y2, y3⟩ := z3 (by rw [c4']; exact hk20)
        show zcR w (znc μ) (zshp (5 + kb)) _ (cb.storeRun jc.toNatClampNeg (ca.stretch ic.toNatClampNeg nc.toNatClampNeg))
        rw [ea, eb, en]
        have hlen : (ca.stretch i.toNat n.toNat).length = n.toNat := by simp [Cell.stretch]
        refine ⟨by rw [f2]; exact z1, fun h => absurd h (by rw [c4']; omega), fun _ => ⟨by rw [f1]; exact y1, by rw [f3]; exact y2, fun x hx => ?_⟩⟩
        rw [Cell.storeRun_get _ _ _ _ (by rw [hlen, y2]; omega), hlen]
        by_cases hxr : j.toNat ≤ x ∧ x < j.toNat + n.toNat
        · rw [if_pos hxr]
          have hxa : i.toNat + (x - j.toNat) < (zshp qa).2 := by omega
          obtain ⟨u, u1, u2⟩ := a5 _ hxa
          refine ⟨u, ?_, ?_⟩
          · simp only [Cell.stretch]
            rw [List.getElem?_map, List.getElem?_range (by omega), Option.map_some, Array.getD_eq_getD_getElem?, u1]
            rfl
          · unfold zcpm
            rw [if_pos ⟨rfl, by omega, by omega⟩, c4']
            rw [show i + ((x : Int) - j) = ((i.toNat + (x - j.toNat) : Nat) : Int) by omega]
            exact u2
        · rw [if_neg hxr]
          obtain ⟨u, u1, u2⟩ := y3 x hx
          refine ⟨u, u1, ?_⟩
          unfold zcpm
          rw [if_neg (by omega)]
          exact u2
    obtain ⟨t2, a1', b1'⟩ := g2 hG _ _ ls sc hrep hL hT (fun q hq => by
      rcases List.mem_append.mp hq with h | h
      · exact h3' q h
      · obtain ⟨z, -, hz⟩ := List.mem_map.mp h
        rw [← hz]
        exact Nat.le_add_right _ _) h4 h5 h6 _ hh X'
    rw [had]
    exact ⟨t2, step t2 a1', b1'⟩
  · exact hza z h
  · have hx' : x < n.toNat := by rw [← en]; exact hx
    obtain ⟨u, u1, u2⟩ := a5 (i.toNat + x) (by omega)
    rw [ea, Array.getD_eq_getD_getElem?, u1]
    have hok : zokT (zat kd) = true := by rcases hkd with rfl | rfl <;> rfl
    have hnb : zat kd ≠ .boolean := by rcases hkd with rfl | rfl <;> (intro h; cases h)
    refine ⟨(zrv_fits hok hnb u2).2, ?_⟩
    rcases hkd with rfl | rfl
    · obtain ⟨y, hy, -⟩ := u2
      rw [hy]; exact trivial
    · obtain ⟨y, hy, -⟩ := u2
      rw [hy]; exact trivial
theorem z_callV0 {idx ci : Nat} {y : MethodName} {b : ByteArray} {nLy : Nat} {rety : Option FieldType} {n d : Nat} {a : Int} {As rest : List zV} {o : zRs} {k : Int → zMem → zRs} (C : G → zCx w own cc nL ret D R p s m args meth c)
    (hl : zLV own idx ci y) (hlc : zLC y b nLy rety n) (hn : As.length = n) (hd : decode cc pc = .ok (.invokevirtual idx, 3)) (hpc : pc + 3 = pc') (hdD : d < D) (hS : zSpc l w d y b nLy rety 0 (zR a :: As) μ o) (hst : st = As.reverse ++ zR a :: rest) (hsum : zwd rest ≤ 8)
    (K : ∀ r μ', zSim G p l e R s m args below meth c w nL n0 Q pc' la rest μ' (k r μ')) : zSim G p l e R s m args below meth c w nL n0 Q pc la st μ (zvc ci a o k) :=
  z_callV (rk' := 0) C hl hlc hn hd hpc hdD hS hst hsum K
theorem z_callV1 {idx ci : Nat} {y : MethodName} {b : ByteArray} {nLy : Nat} {rety : Option FieldType} {n d : Nat} {a : Int} {As rest : List zV} {o : zRs} {k : Int → zMem → zRs} (C : G → zCx w own cc nL ret D R p s m args meth c)
    (hl : zLV own idx ci y) (hlc : zLC y b nLy rety n) (hn : As.length = n) (hd : decode cc pc = .ok (.invokevirtual idx, 3)) (hpc : pc + 3 = pc') (hdD : d < D) (hS : zSpc l w d y b nLy rety 1 (zR a :: As) μ o) (hst : st = As.reverse ++ zR a :: rest) (hsum : zwd rest ≤ 8)
    (K : ∀ r μ', zSim G p l e R s m args below meth c w nL n0 Q pc' la (zI r :: rest) μ' (k r μ')) : zSim G p l e R s m args below meth c w nL n0 Q pc la st μ (zvc ci a o k) :=
  z_callV (rk' := 1) C hl hlc hn hd hpc hdD hS hst hsum K
theorem z_callV2 {idx ci : Nat} {y : MethodName} {b : ByteArray} {nLy : Nat} {rety : Option FieldType} {n d : Nat} {a : Int} {As rest : List zV} {o : zRs} {k : Int → zMem → zRs} (C : G → zCx w own cc nL ret D R p s m args meth c)
    (hl : zLV own idx ci y) (hlc : zLC y b nLy rety n) (hn : As.length = n) (hd : decode cc pc = .ok (.invokevirtual idx, 3)) (hpc : pc + 3 = pc') (hdD : d < D) (hS : zSpc l w d y b nLy rety 2 (zR a :: As) μ o) (hst : st = As.reverse ++ zR a :: rest) (hsum : zwd rest ≤ 8)
    (K : ∀ r μ', zSim G p l e R s m args below meth c w nL n0 Q pc' la (zL r :: rest) μ' (k r μ')) : zSim G p l e R s m args below meth c w nL n0 Q pc la st μ (zvc ci a o k) :=
  z_callV (rk' := 2) C hl hlc hn hd hpc hdD hS hst hsum K
theorem z_callV3 {idx ci : Nat} {y : MethodName} {b : ByteArray} {nLy : Nat} {rety : Option FieldType} {n d : Nat} {a : Int} {As rest : List zV} {o : zRs} {k : Int → zMem → zRs} (C : G → zCx w own cc nL ret D R p s m args meth c)
    (hl : zLV own idx ci y) (hlc : zLC y b nLy rety n) (hn : As.length = n) (hd : decode cc pc = .ok (.invokevirtual idx, 3)) (hpc : pc + 3 = pc') (hdD : d < D) (hS : zSpc l w d y b nLy rety 3 (zR a :: As) μ o) (hst : st = As.reverse ++ zR a :: rest) (hsum : zwd rest ≤ 8)
    (K : ∀ r μ', zSim G p l e R s m args below meth c w nL n0 Q pc' la (zR r :: rest) μ' (k r μ')) : zSim G p l e R s m args below meth c w nL n0 Q pc la st μ (zvc ci a o k) :=
  z_callV (rk' := 3) C hl hlc hn hd hpc hdD hS hst hsum K
theorem z_callS0 {idx : Nat} {y : MethodName} {b : ByteArray} {nLy : Nat} {rety : Option FieldType} {n d : Nat} {As rest : List zV} {o : zRs} {k : Int → zMem → zRs} (C : G → zCx w own cc nL ret D R p s m args meth c)
    (hl : zLS own idx y) (hlc : zLC y b nLy rety n) (hn : As.length = n) (hd : decode cc pc = .ok (.invokestatic idx, 3)) (hpc : pc + 3 = pc') (hdD : d < D) (hS : zSpc l w d y b nLy rety 0 As μ o) (hst : st = As.reverse ++ rest) (hsum : zwd rest ≤ 8)
    (K : ∀ r μ', zSim G p l e R s m args below meth c w nL n0 Q pc' la rest μ' (k r μ')) : zSim G p l e R s m args below meth c w nL n0 Q pc la st μ (zcall o k) :=
  z_callS (rk' := 0) C hl hlc hn hd hpc hdD hS hst hsum K
theorem z_callS1 {idx : Nat} {y : MethodName} {b : ByteArray} {nLy : Nat} {rety : Option FieldType} {n d : Nat} {As rest : List zV} {o : zRs} {k : Int → zMem → zRs} (C : G → zCx w own cc nL ret D R p s m args meth c)
    (hl : zLS own idx y) (hlc : zLC y b nLy rety n) (hn : As.length = n) (hd : decode cc pc = .ok (.invokestatic idx, 3)) (hpc : pc + 3 = pc') (hdD : d < D) (hS : zSpc l w d y b nLy rety 1 As μ o) (hst : st = As.reverse ++ rest) (hsum : zwd rest ≤ 8)
    (K : ∀ r μ', zSim G p l e R s m args below meth c w nL n0 Q pc' la (zI r :: rest) μ' (k r μ')) : zSim G p l e R s m args below meth c w nL n0 Q pc la st μ (zcall o k) :=
  z_callS (rk' := 1) C hl hlc hn hd hpc hdD hS hst hsum K
theorem z_callS2 {idx : Nat} {y : MethodName} {b : ByteArray} {nLy : Nat} {rety : Option FieldType} {n d : Nat} {As rest : List zV} {o : zRs} {k : Int → zMem → zRs} (C : G → zCx w own cc nL ret D R p s m args meth c)
    (hl : zLS own idx y) (hlc : zLC y b nLy rety n) (hn : As.length = n) (hd : decode cc pc = .ok (.invokestatic idx, 3)) (hpc : pc + 3 = pc') (hdD : d < D) (hS : zSpc l w d y b nLy rety 2 As μ o) (hst : st = As.reverse ++ rest) (hsum : zwd rest ≤ 8)
    (K : ∀ r μ', zSim G p l e R s m args below meth c w nL n0 Q pc' la (zL r :: rest) μ' (k r μ')) : zSim G p l e R s m args below meth c w nL n0 Q pc la st μ (zcall o k) :=
  z_callS (rk' := 2) C hl hlc hn hd hpc hdD hS hst hsum K
theorem z_callS3 {idx : Nat} {y : MethodName} {b : ByteArray} {nLy : Nat} {rety : Option FieldType} {n d : Nat} {As rest : List zV} {o : zRs} {k : Int → zMem → zRs} (C : G → zCx w own cc nL ret D R p s m args meth c)
    (hl : zLS own idx y) (hlc : zLC y b nLy rety n) (hn : As.length = n) (hd : decode cc pc = .ok (.invokestatic idx, 3)) (hpc : pc + 3 = pc') (hdD : d < D) (hS : zSpc l w d y b nLy rety 3 As μ o) (hst : st = As.reverse ++ rest) (hsum : zwd rest ≤ 8)
    (K : ∀ r μ', zSim G p l e R s m args below meth c w nL n0 Q pc' la (zR r :: rest) μ' (k r μ')) : zSim G p l e R s m args below meth c w nL n0 Q pc la st μ (zcall o k) :=
  z_callS (rk' := 3) C hl hlc hn hd hpc hdD hS hst hsum K
theorem zSpc_none {d : Nat} {y : MethodName} {b : ByteArray} {nL : Nat} {ret : Option FieldType} {rk : Nat} {As : List zV} {μ : zMem} : zSpc l w d y b nL ret rk As μ none := fun _ _ h => by cases h
def zmx (x y : Int) : Int := if x < y then y else x
def zmi (x y : Int) : Int := if y < x then y else x
def zab (x : Int) : Int := if 0 ≤ x then x else zw32 (0 - x)
theorem z_mmax {idx : Nat} {x y : Int} (C : G → zCx w own cc nL ret D R p s m args meth c) (h1 : Cond.methodLink own idx Lib.Math.max.name ∈ zwt) (h2 : Cond.static Lib.Math.max.name ∈ zwt) (h3 : Cond.initialized "java/lang/Math" ∈ zwt) (h4 : Cond.code Lib.Math.max.name Lib.Math.max.code 2 (some .int) ∈ zwt) (hd : decode cc pc = .ok (.invokestatic idx, 3)) (hpc : pc + 3 = pc') (hD : 1 ≤ D) (hsum : zwd st ≤ 8)
    (K : zSim G p l e R s m args below meth c w nL n0 Q pc' la (zI (zmx x y) :: st) μ t) : zSim G p l e R s m args below meth c w nL n0 Q pc la (zI y :: zI x :: st) μ t := by
  subst hpc
  intro r μ' ht
  obtain ⟨g1, g2⟩ := K r μ' ht
  refine ⟨g1, fun hG H locs ls sc hR hL hS h3' h4' h5 h6 => ?_⟩
  have hcx := C hG
  have hw := hcx.2.2.2.2.1
  have hfr := hcx.2.2.2.2.2.2.2.2.1
  have hlo := hcx.2.2.2.2.2.2.2.2.2
  have hps := zps_mono g1
  obtain ⟨_, sc, rfl, ⟨j, rfl, rfl⟩, hU⟩ := zsR_cons hS
  obtain ⟨_, sc, rfl, ⟨i, rfl, rfl⟩, hT⟩ := zsR_cons hU
  refine va_mmax hcx.1 hcx.2.1 (by rw [hcx.2.2.1]; exact (zlR_size hL).symm) hcx.2.2.2.1 (hw _ h1) (hw _ h2) (hw _ h3) (hw _ h4) (by omega) (by rw [zsR_sum hT]; omega) (by omega) (by omega) hd ?_
  refine g2 hG H locs ls _ hR hL ⟨⟨_, rfl, ?_⟩, hT⟩ h3' h4' h5 h6
  · unfold zmx; simp only [Int32.lt_iff_toInt_lt]; split <;> rfl
theorem z_mmin {idx : Nat} {x y : Int} (C : G → zCx w own cc nL ret D R p s m args meth c) (h1 : Cond.methodLink own idx Lib.Math.min.name ∈ zwt) (h2 : Cond.static Lib.Math.min.name ∈ zwt) (h3 : Cond.initialized "java/lang/Math" ∈ zwt) (h4 : Cond.code Lib.Math.min.name Lib.Math.min.code 2 (some .int) ∈ zwt) (hd : decode cc pc = .ok (.invokestatic idx, 3)) (hpc : pc + 3 = pc') (hD : 1 ≤ D) (hsum : zwd st ≤ 8)
    (K : zSim G p l e R s m args below meth c w nL n0 Q pc' la (zI (zmi x y) :: st) μ t) : zSim G p l e R s m args below meth c w nL n0 Q pc la (zI y :: zI x :: st) μ t := by
  subst hpc
  intro r μ' ht
  obtain ⟨g1, g2⟩ := K r μ' ht
  refine ⟨g1, fun hG H locs ls sc hR hL hS h3' h4' h5 h6 => ?_⟩
  have hcx := C hG
  have hw := hcx.2.2.2.2.1
  have hfr := hcx.2.2.2.2.2.2.2.2.1
  have hlo := hcx.2.2.2.2.2.2.2.2.2
  have hps := zps_mono g1
  obtain ⟨_, sc, rfl, ⟨j, rfl, rfl⟩, hU⟩ := zsR_cons hS
  obtain ⟨_, sc, rfl, ⟨i, rfl, rfl⟩, hT⟩ := zsR_cons hU
  refine va_mmin hcx.1 hcx.2.1 (by rw [hcx.2.2.1]; exact (zlR_size hL).symm) hcx.2.2.2.1 (hw _ h1) (hw _ h2) (hw _ h3) (hw _ h4) (by omega) (by rw [zsR_sum hT]; omega) (by omega) (by omega) hd ?_
  refine g2 hG H locs ls _ hR hL ⟨⟨_, rfl, ?_⟩, hT⟩ h3' h4' h5 h6
  · unfold zmi; simp only [Int32.lt_iff_toInt_lt]; split <;> rfl
theorem z_mabs {idx : Nat} {x : Int} (C : G → zCx w own cc nL ret D R p s m args meth c) (h1 : Cond.methodLink own idx Lib.Math.abs.name ∈ zwt) (h2 : Cond.static Lib.Math.abs.name ∈ zwt) (h3 : Cond.initialized "java/lang/Math" ∈ zwt) (h4 : Cond.code Lib.Math.abs.name Lib.Math.abs.code 1 (some .int) ∈ zwt) (hd : decode cc pc = .ok (.invokestatic idx, 3)) (hpc : pc + 3 = pc') (hD : 1 ≤ D) (hsum : zwd st ≤ 8)
    (K : zSim G p l e R s m args below meth c w nL n0 Q pc' la (zI (zab x) :: st) μ t) : zSim G p l e R s m args below meth c w nL n0 Q pc la (zI x :: st) μ t := by
  subst hpc
  intro r μ' ht
  obtain ⟨g1, g2⟩ := K r μ' ht
  refine ⟨g1, fun hG H locs ls sc hR hL hS h3' h4' h5 h6 => ?_⟩
  have hcx := C hG
  have hw := hcx.2.2.2.2.1
  have hfr := hcx.2.2.2.2.2.2.2.2.1
  have hlo := hcx.2.2.2.2.2.2.2.2.2
  have hps := zps_mono g1
  obtain ⟨_, sc, rfl, ⟨i, rfl, rfl⟩, hT⟩ := zsR_cons hS
  refine va_mabs hcx.1 hcx.2.1 (by rw [hcx.2.2.1]; exact (zlR_size hL).symm) hcx.2.2.2.1 (hw _ h1) (hw _ h2) (hw _ h3) (hw _ h4) (by omega) (by rw [zsR_sum hT]; omega) (by omega) (by omega) hd ?_
  refine g2 hG H locs ls _ hR hL ⟨⟨_, rfl, ?_⟩, hT⟩ h3' h4' h5 h6
  · unfold zab; simp only [Int32.le_iff_toInt_le, Int32.toInt_zero]; split; · rfl
    · rw [Int32.toInt_sub, ← zw32_bmod]; rfl
end ZCALL2
