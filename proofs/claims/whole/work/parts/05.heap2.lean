section ZHEAP2
variable {G : Prop} {p : Program} {l : Launch} {e : Env} {R : Room} {s : State} {m : MethodId} {args : Array Value} {below : List Frame} {meth : Method} {c : Code} {w : zW} {own : String} {cc : ByteArray} {nL n0 D : Nat} {ret : Option FieldType} {Q : Int → zMem → State → Prop} {pc pc' : Nat} {la : List (Nat × zV)} {st : List zV} {μ : zMem} {t : zRs}
def zfin (ci j : Nat) : Bool := match vwCl[ci]? with
  | some q => (q.2.1 j).2.2.2
  | none => true
theorem zfin_of {ci j : Nat} (h : zfin ci j = false) (C' : String) (T : u_T) (N : Nat) (hc : vwCl[ci]? = some (C', T, N)) : (T j).2.2.2 = false := by
  unfold zfin at h
  rw [hc] at h
  exact h
theorem z_putf {idx ci j : Nat} {a x : Int} {k : zMem → zRs} (C : G → zCx w own cc nL ret D R p s m args meth c) (hf : zFL own idx ci j 0) (hn : zfin ci j = false) (hb : zty ci j ≠ .boolean) (hd : decode cc pc = .ok (.putfield idx, 3)) (hpc : pc + 3 = pc')
    (K : ∀ μ', zSim G p l e R s m args below meth c w nL n0 Q pc' la st μ' (k μ')) : zSim G p l e R s m args below meth c w nL n0 Q pc la (zI x :: zR a :: st) μ (zpf ci j a x μ k) := by
  subst hpc
  exact zputf_core C hf hd hb (fun C' T N h => Or.inl (zfin_of hn C' T N h)) (fun μ' _ => K μ')
theorem z_putfR {idx ci j : Nat} {a x : Int} {k : zMem → zRs} (C : G → zCx w own cc nL ret D R p s m args meth c) (hf : zFL own idx ci j 2) (hn : zfin ci j = false) (hb : zty ci j ≠ .boolean) (hd : decode cc pc = .ok (.putfield idx, 3)) (hpc : pc + 3 = pc')
    (K : ∀ μ', zSim G p l e R s m args below meth c w nL n0 Q pc' la st μ' (k μ')) : zSim G p l e R s m args below meth c w nL n0 Q pc la (zR x :: zR a :: st) μ (zpf ci j a x μ k) := by
  subst hpc
  exact zputf_core C hf hd hb (fun C' T N h => Or.inl (zfin_of hn C' T N h)) (fun μ' _ => K μ')
/-- in a constructor -/
theorem z_putfRi {idx ci j : Nat} {a x : Int} {k : zMem → zRs} (C : G → zCx w own cc nL ret D R p s m args meth c) (hf : zFL own idx ci j 2) (hi : G → meth.name = "<init>") (hown : (vwCl[ci]?).map (fun q => q.1) = some own) (hb : zty ci j ≠ .boolean) (hd : decode cc pc = .ok (.putfield idx, 3)) (hpc : pc + 3 = pc')
    (K : ∀ μ', zSim G p l e R s m args below meth c w nL n0 Q pc' la st μ' (k μ')) : zSim G p l e R s m args below meth c w nL n0 Q pc la (zR x :: zR a :: st) μ (zpf ci j a x μ k) := by
  subst hpc
  refine zputf_core C hf hd hb (fun C' T N h => Or.inr ⟨?_, hi⟩) (fun μ' _ => K μ')
  rw [h] at hown
  exact (Option.some.inj hown).symm
/-! ### rows -/
theorem zty_at {kd : Nat} (h1 : 20 ≤ kd) (h2 : kd ≤ 26) : (ztys w)[kd - 20]? = some (w.2.2.2.1 kd, zat kd) := by
  rcases (show kd = 20 ∨ kd = 21 ∨ kd = 22 ∨ kd = 23 ∨ kd = 24 ∨ kd = 25 ∨ kd = 26 by omega) with rfl | rfl | rfl | rfl | rfl | rfl | rfl <;> rfl
theorem zarr {kd : Nat} {a : Int} {v : Value} {H : Heap} (hK : zKn w s) (hR : zRep w μ H) (hv : zrv w (znc μ) (zR a) v) (h1 : 1 ≤ a) (hk : (zshp a.toNat).1 = kd) (hkd : 20 ≤ kd) (hkd2 : kd ≤ 26) :
    ∃ (q : Nat) (cell : Cell), a = (q : Int) ∧ v = .ref (zad w q) ∧ H[zad w q]? = some cell ∧ s.isArrayOf cell (zat kd) ∧ cell.vm ≠ .unknown ∧ ((zshp q).2 ≤ cell.slots.size ∧ cell.slots.size.toInt32 = Int32.ofNat (zshp q).2) ∧ (∀ j : Nat, j < (zshp q).2 → ∃ x, cell.slots[j]? = some x ∧ zrv w (znc μ) (zmk (ztg (zat kd)) (μ (q : Int) (j : Int))) x) ∧
      (5 ≤ q → ∃ k, q = 5 + k ∧ k < znc μ ∧ zad w q = w.1 + k ∧ cell.vm = .none ∧ cell.cls = w.2.2.2.1 kd ∧ zcR w (znc μ) (zshp (5 + k)) (μ ((5 + k : Nat) : Int)) cell) := by
  rcases hv with ⟨h2, -⟩ | ⟨q, rfl, hq, rfl⟩
  · omega
  · have hqq : ((q : Int)).toNat = q := by omega
    rw [hqq] at hk
    by_cases h5 : 5 ≤ q
    · obtain ⟨k, rfl⟩ : ∃ k, q = 5 + k := ⟨q - 5, by omega⟩
      obtain ⟨cell, g1, g2⟩ := hR.2.2.1 k (by omega)
      have g0 := g2
      obtain ⟨e1, -, e3⟩ := g2
      obtain ⟨e4, e5, e6⟩ := e3 (by omega)
      rw [hk] at e4 e6
      obtain ⟨-, kA, hkA, comp, hkind⟩ := (hK.2.1.2 _ _ (zty_at (w := w) hkd hkd2)).1 0 (fun _ => .null)
      refine ⟨5 + k, cell, rfl, rfl, by rw [zad_new]; exact g1, ⟨fun z h => (by rw [e1] at h; cases h), kA, (by rw [e4]; exact hkA), comp, hkind⟩, (by rw [e1]; intro z; cases z), ⟨Nat.le_of_eq e5.symm, by rw [e5]⟩, e6, fun _ => ⟨k, rfl, by omega, zad_new, e1, e4, g0⟩⟩
    · obtain ⟨cell, g1, g2, g3, g4, g5⟩ := hK.2.2.1 q (by omega) (by omega)
      have hz := hK.2.2.2.1 q (by omega) (by omega)
      have hkk : kd = 20 := by rw [← hk]; exact zshp_old q (by omega) (by omega)
      subst hkk
      have hlt : w.2.1 q < w.1 := by rw [← hK.1]; exact (Array.getElem?_eq_some_iff.mp g1).1
      refine ⟨q, cell, rfl, rfl, ?_, g2, g3, g4, fun j hj => ?_, fun h => absurd h h5⟩
      · have : zad w q = w.2.1 q := by unfold zad; rw [if_pos (by omega)]
        rw [this, hR.2.1 _ hlt]
        exact g1
      · obtain ⟨i, e1, e2⟩ := g5 j hj
        refine ⟨_, e1, i, rfl, ?_⟩
        rw [hR.2.2.2 q j (by omega) (by omega) hj]
        exact e2
theorem zisA_spec {kd : Nat} {a j : Int} (h : zisA kd a j = true) : 1 ≤ a ∧ (zshp a.toNat).1 = kd ∧ 0 ≤ j ∧ j < ((zshp a.toNat).2 : Int) := by
  simp only [zisA, Bool.and_eq_true, decide_eq_true_eq, beq_iff_eq] at h
  exact ⟨h.1.1.1, h.1.1.2, h.1.2, h.2⟩
theorem zidx {i : Int32} {n : Nat} (h0 : 0 ≤ i.toInt) (h1 : i.toInt < (n : Int)) : (∀ z : Nat, n ≤ z → ¬ (i < 0 ∨ z ≤ i.toNatClampNeg)) ∧ ((i.toNatClampNeg : Nat) : Int) = i.toInt ∧ i.toNatClampNeg < n := by
  have e : i.toNatClampNeg = i.toInt.toNat := rfl
  refine ⟨fun z hz => ?_, by omega, by omega⟩
  rintro (h | h)
  · have := Int32.lt_iff_toInt_lt.mp h
    rw [Int32.toInt_zero] at this
    omega
  · omega
theorem z_iald {a j : Int} {k : Int → zRs} (C : G → zCx w own cc nL ret D R p s m args meth c) (hd : decode cc pc = .ok (.iaload, 1)) (hpc : pc + 1 = pc')
    (K : ∀ x, zSim G p l e R s m args below meth c w nL n0 Q pc' la (zI x :: st) μ (k x)) : zSim G p l e R s m args below meth c w nL n0 Q pc la (zI j :: zR a :: st) μ (zald 20 a j μ k) := by
  subst hpc
  unfold zald
  split
  · rename_i hc
    obtain ⟨c1, c2, c3, c4⟩ := zisA_spec hc
    intro r μ' ht
    obtain ⟨h1, h2⟩ := K _ r μ' ht
    refine ⟨h1, fun hG H locs ls sc hR hL hS h3 h4 h5 h6 => ?_⟩
    obtain ⟨_, sc, rfl, ⟨i, rfl, rfl⟩, hU⟩ := zsR_cons hS
    obtain ⟨v, sc, rfl, hv, hT⟩ := zsR_cons hU
    obtain ⟨q, cell, rfl, rfl, g1, g2, g3, g4, g5, -⟩ := zarr (C hG).2.2.2.2.2.2.2.1 hR hv c1 c2 (by omega) (by omega)
    obtain ⟨i1, i2, i3⟩ := zidx c3 (n := (zshp q).2) (by rw [show ((q : Int)).toNat = q by omega] at c4; exact c4)
    obtain ⟨x, x1, x2⟩ := g5 _ i3
    rw [i2] at x2
    refine W.iald (C hG).1 (C hG).2.1 g1 g2 g3 (i1 _ g4.1) x1 rfl rfl hd ?_
    exact h2 hG H locs ls _ hR hL ⟨x2, hT⟩ h3 h4 h5 h6
  · exact znone
theorem z_lald {a j : Int} {k : Int → zRs} (C : G → zCx w own cc nL ret D R p s m args meth c) (hd : decode cc pc = .ok (.laload, 1)) (hpc : pc + 1 = pc')
    (K : ∀ x, zSim G p l e R s m args below meth c w nL n0 Q pc' la (zL x :: st) μ (k x)) : zSim G p l e R s m args below meth c w nL n0 Q pc la (zI j :: zR a :: st) μ (zald 21 a j μ k) := by
  subst hpc
  unfold zald
  split
  · rename_i hc
    obtain ⟨c1, c2, c3, c4⟩ := zisA_spec hc
    intro r μ' ht
    obtain ⟨h1, h2⟩ := K _ r μ' ht
    refine ⟨h1, fun hG H locs ls sc hR hL hS h3 h4 h5 h6 => ?_⟩
    obtain ⟨_, sc, rfl, ⟨i, rfl, rfl⟩, hU⟩ := zsR_cons hS
    obtain ⟨v, sc, rfl, hv, hT⟩ := zsR_cons hU
    obtain ⟨q, cell, rfl, rfl, g1, g2, g3, g4, g5, -⟩ := zarr (C hG).2.2.2.2.2.2.2.1 hR hv c1 c2 (by omega) (by omega)
    obtain ⟨i1, i2, i3⟩ := zidx c3 (n := (zshp q).2) (by rw [show ((q : Int)).toNat = q by omega] at c4; exact c4)
    obtain ⟨x, x1, x2⟩ := g5 _ i3
    rw [i2] at x2
    refine W.lald (C hG).1 (C hG).2.1 g1 g2 g3 (i1 _ g4.1) x1 rfl rfl hd ?_
    exact h2 hG H locs ls _ hR hL ⟨x2, hT⟩ h3 h4 h5 h6
  · exact znone
theorem z_zald {a j : Int} {k : Int → zRs} (C : G → zCx w own cc nL ret D R p s m args meth c) (hd : decode cc pc = .ok (.baload, 1)) (hpc : pc + 1 = pc')
    (K : ∀ x, zSim G p l e R s m args below meth c w nL n0 Q pc' la (zI x :: st) μ (k x)) : zSim G p l e R s m args below meth c w nL n0 Q pc la (zI j :: zR a :: st) μ (zald 22 a j μ k) := by
  subst hpc
  unfold zald
  split
  · rename_i hc
    obtain ⟨c1, c2, c3, c4⟩ := zisA_spec hc
    intro r μ' ht
    obtain ⟨h1, h2⟩ := K _ r μ' ht
    refine ⟨h1, fun hG H locs ls sc hR hL hS h3 h4 h5 h6 => ?_⟩
    obtain ⟨_, sc, rfl, ⟨i, rfl, rfl⟩, hU⟩ := zsR_cons hS
    obtain ⟨v, sc, rfl, hv, hT⟩ := zsR_cons hU
    obtain ⟨q, cell, rfl, rfl, g1, g2, g3, g4, g5, -⟩ := zarr (C hG).2.2.2.2.2.2.2.1 hR hv c1 c2 (by omega) (by omega)
    obtain ⟨i1, i2, i3⟩ := zidx c3 (n := (zshp q).2) (by rw [show ((q : Int)).toNat = q by omega] at c4; exact c4)
    obtain ⟨x, x1, x2⟩ := g5 _ i3
    rw [i2] at x2
    refine W.zald (C hG).1 (C hG).2.1 g1 g2 g3 (i1 _ g4.1) x1 rfl rfl hd ?_
    exact h2 hG H locs ls _ hR hL ⟨x2, hT⟩ h3 h4 h5 h6
  · exact znone
theorem z_aald {kd : Nat} {a j : Int} {k : Int → zRs} (C : G → zCx w own cc nL ret D R p s m args meth c) (hkd : 23 ≤ kd ∧ kd ≤ 26) (hd : decode cc pc = .ok (.aaload, 1)) (hpc : pc + 1 = pc')
    (K : ∀ x, zSim G p l e R s m args below meth c w nL n0 Q pc' la (zR x :: st) μ (k x)) : zSim G p l e R s m args below meth c w nL n0 Q pc la (zI j :: zR a :: st) μ (zald kd a j μ k) := by
  subst hpc
  unfold zald
  split
  · rename_i hc
    obtain ⟨c1, c2, c3, c4⟩ := zisA_spec hc
    intro r μ' ht
    obtain ⟨h1, h2⟩ := K _ r μ' ht
    refine ⟨h1, fun hG H locs ls sc hR hL hS h3 h4 h5 h6 => ?_⟩
    obtain ⟨_, sc, rfl, ⟨i, rfl, rfl⟩, hU⟩ := zsR_cons hS
    obtain ⟨v, sc, rfl, hv, hT⟩ := zsR_cons hU
    obtain ⟨q, cell, rfl, rfl, g1, g2, g3, g4, g5, -⟩ := zarr (C hG).2.2.2.2.2.2.2.1 hR hv c1 c2 (by omega) (by omega)
    obtain ⟨i1, i2, i3⟩ := zidx c3 (n := (zshp q).2) (by rw [show ((q : Int)).toNat = q by omega] at c4; exact c4)
    obtain ⟨x, x1, x2⟩ := g5 _ i3
    rw [i2] at x2
    have hz : ztg (zat kd) = 2 := by rcases (show kd = 23 ∨ kd = 24 ∨ kd = 25 ∨ kd = 26 by omega) with rfl | rfl | rfl | rfl <;> rfl
    have hz2 : (zat kd).isReference = true := by rcases (show kd = 23 ∨ kd = 24 ∨ kd = 25 ∨ kd = 26 by omega) with rfl | rfl | rfl | rfl <;> rfl
    rw [hz] at x2
    refine W.aald (C hG).1 (C hG).2.1 g1 g2 hz2 g3 (i1 _ g4.1) x1 rfl rfl hd ?_
    exact h2 hG H locs ls _ hR hL ⟨x2, hT⟩ h3 h4 h5 h6
  · exact znone
theorem z_iast {a j x : Int} {k : zMem → zRs} (C : G → zCx w own cc nL ret D R p s m args meth c) (hd : decode cc pc = .ok (.iastore, 1)) (hpc : pc + 1 = pc')
    (K : ∀ μ', zSim G p l e R s m args below meth c w nL n0 Q pc' la st μ' (k μ')) : zSim G p l e R s m args below meth c w nL n0 Q pc la (zI x :: zI j :: zR a :: st) μ (zast 20 a j x μ k) := by
  subst hpc
  unfold zast
  split
  · rename_i hc
    simp only [zisW, Bool.and_eq_true, decide_eq_true_eq] at hc
    obtain ⟨c5, hc⟩ := hc
    obtain ⟨c1, c2, c3, c4⟩ := zisA_spec hc
    intro r μ' ht
    obtain ⟨h1, h2⟩ := K _ r μ' ht
    rw [zupd_nc (by omega)] at h1 h2
    refine ⟨h1, fun hG H locs ls sc hR hL hS h3 h4 h5 h6 => ?_⟩
    obtain ⟨_, sc, rfl, ⟨z, rfl, hz⟩, hV⟩ := zsR_cons hS
    obtain ⟨_, sc, rfl, ⟨i, rfl, rfl⟩, hU⟩ := zsR_cons hV
    obtain ⟨v, sc, rfl, hv, hT⟩ := zsR_cons hU
    obtain ⟨q, cell, rfl, rfl, g1, g2, g3, g4, -, g6⟩ := zarr (C hG).2.2.2.2.2.2.2.1 hR hv c1 c2 (by omega) (by omega)
    obtain ⟨kk, rfl, hk, had, g7, g8, g9⟩ := g6 (by omega)
    have c2' : (zshp (5 + kk)).1 = 20 := c2
    obtain ⟨i1, i2, i3⟩ := zidx c3 (n := (zshp (5 + kk)).2) c4
    rw [had] at g1 ⊢
    refine W.iast (C hG).1 (C hG).2.1 g1 g2 g3 (i1 _ g4.1) rfl rfl hd (fun H' e1 e2 e3 => ?_)
    refine h2 hG H' _ ls sc ?_ hL hT (fun q hq => ?_) h4 h5 h6
    · rw [← i2]
      exact zRep_upd hR hk e1 e2 e3 (zcell_setA g9 (by omega) i3 (by rw [c2']; exact ⟨z, rfl, hz⟩))
    · rcases List.mem_append.mp hq with h | h
      · exact h3 q h
      · cases List.mem_singleton.mp h
        exact Nat.le_add_right _ _
  · exact znone
theorem z_last {a j x : Int} {k : zMem → zRs} (C : G → zCx w own cc nL ret D R p s m args meth c) (hd : decode cc pc = .ok (.lastore, 1)) (hpc : pc + 1 = pc')
    (K : ∀ μ', zSim G p l e R s m args below meth c w nL n0 Q pc' la st μ' (k μ')) : zSim G p l e R s m args below meth c w nL n0 Q pc la (zL x :: zI j :: zR a :: st) μ (zast 21 a j x μ k) := by
  subst hpc
  unfold zast
  split
  · rename_i hc
    simp only [zisW, Bool.and_eq_true, decide_eq_true_eq] at hc
    obtain ⟨c5, hc⟩ := hc
    obtain ⟨c1, c2, c3, c4⟩ := zisA_spec hc
    intro r μ' ht
    obtain ⟨h1, h2⟩ := K _ r μ' ht
    rw [zupd_nc (by omega)] at h1 h2
    refine ⟨h1, fun hG H locs ls sc hR hL hS h3 h4 h5 h6 => ?_⟩
    obtain ⟨_, sc, rfl, ⟨z, rfl, hz⟩, hV⟩ := zsR_cons hS
    obtain ⟨_, sc, rfl, ⟨i, rfl, rfl⟩, hU⟩ := zsR_cons hV
    obtain ⟨v, sc, rfl, hv, hT⟩ := zsR_cons hU
    obtain ⟨q, cell, rfl, rfl, g1, g2, g3, g4, -, g6⟩ := zarr (C hG).2.2.2.2.2.2.2.1 hR hv c1 c2 (by omega) (by omega)
    obtain ⟨kk, rfl, hk, had, g7, g8, g9⟩ := g6 (by omega)
    have c2' : (zshp (5 + kk)).1 = 21 := c2
    obtain ⟨i1, i2, i3⟩ := zidx c3 (n := (zshp (5 + kk)).2) c4
    rw [had] at g1 ⊢
    refine W.last (C hG).1 (C hG).2.1 g1 g2 g3 (i1 _ g4.1) rfl rfl hd (fun H' e1 e2 e3 => ?_)
    refine h2 hG H' _ ls sc ?_ hL hT (fun q hq => ?_) h4 h5 h6
    · rw [← i2]
      exact zRep_upd hR hk e1 e2 e3 (zcell_setA g9 (by omega) i3 (by rw [c2']; exact ⟨z, rfl, hz⟩))
    · rcases List.mem_append.mp hq with h | h
      · exact h3 q h
      · cases List.mem_singleton.mp h
        exact Nat.le_add_right _ _
  · exact znone
theorem z_zast {a j x : Int} {k : zMem → zRs} (C : G → zCx w own cc nL ret D R p s m args meth c) (hd : decode cc pc = .ok (.bastore, 1)) (hpc : pc + 1 = pc')
    (K : ∀ μ', zSim G p l e R s m args below meth c w nL n0 Q pc' la st μ' (k μ')) : zSim G p l e R s m args below meth c w nL n0 Q pc la (zI x :: zI j :: zR a :: st) μ (zbl x (zast 22 a j x μ k)) := by
  subst hpc
  unfold zbl
  split
  rotate_left
  · exact znone
  rename_i hbl
  unfold zast
  split
  · rename_i hc
    simp only [zisW, Bool.and_eq_true, decide_eq_true_eq] at hc
    obtain ⟨c5, hc⟩ := hc
    obtain ⟨c1, c2, c3, c4⟩ := zisA_spec hc
    intro r μ' ht
    obtain ⟨h1, h2⟩ := K _ r μ' ht
    rw [zupd_nc (by omega)] at h1 h2
    refine ⟨h1, fun hG H locs ls sc hR hL hS h3 h4 h5 h6 => ?_⟩
    obtain ⟨_, sc, rfl, ⟨z, rfl, hz⟩, hV⟩ := zsR_cons hS
    obtain ⟨_, sc, rfl, ⟨i, rfl, rfl⟩, hU⟩ := zsR_cons hV
    obtain ⟨v, sc, rfl, hv, hT⟩ := zsR_cons hU
    obtain ⟨q, cell, rfl, rfl, g1, g2, g3, g4, -, g6⟩ := zarr (C hG).2.2.2.2.2.2.2.1 hR hv c1 c2 (by omega) (by omega)
    obtain ⟨kk, rfl, hk, had, g7, g8, g9⟩ := g6 (by omega)
    have c2' : (zshp (5 + kk)).1 = 22 := c2
    obtain ⟨i1, i2, i3⟩ := zidx c3 (n := (zshp (5 + kk)).2) c4
    rw [had] at g1 ⊢
    refine W.zast (C hG).1 (C hG).2.1 g1 g2 g3 (i1 _ g4.1) rfl rfl hd (fun H' e1 e2 e3 => ?_)
    have hnr : narrow .boolean (.int z) = .int z := by rcases hbl with rfl | rfl <;> (have : z = _ := Int32.toInt_inj.mp (hz.trans (by first | exact (Int32.toInt_zero).symm | exact (Int32.toInt_one).symm)); subst this; rfl)
    rw [hnr] at e1
    refine h2 hG H' _ ls sc ?_ hL hT (fun q hq => ?_) h4 h5 h6
    · rw [← i2]
      exact zRep_upd hR hk e1 e2 e3 (zcell_setA g9 (by omega) i3 (by rw [c2']; exact ⟨z, rfl, hz⟩))
    · rcases List.mem_append.mp hq with h | h
      · exact h3 q h
      · cases List.mem_singleton.mp h
        exact Nat.le_add_right _ _
  · exact znone
theorem z_alen {kd : Nat} {a : Int} {k : Int → zRs} (C : G → zCx w own cc nL ret D R p s m args meth c) (hkd : 20 ≤ kd ∧ kd ≤ 26) (hd : decode cc pc = .ok (.arraylength, 1)) (hpc : pc + 1 = pc')
    (K : ∀ x, zSim G p l e R s m args below meth c w nL n0 Q pc' la (zI x :: st) μ (k x)) : zSim G p l e R s m args below meth c w nL n0 Q pc la (zR a :: st) μ (zlen kd a k) := by
  subst hpc
  unfold zlen
  split
  · rename_i hc
    simp only [Bool.and_eq_true, decide_eq_true_eq, beq_iff_eq] at hc
    intro r μ' ht
    obtain ⟨h1, h2⟩ := K _ r μ' ht
    refine ⟨h1, fun hG H locs ls sc hR hL hS h3 h4 h5 h6 => ?_⟩
    obtain ⟨v, sc, rfl, hv, hT⟩ := zsR_cons hS
    obtain ⟨q, cell, rfl, rfl, g1, g2, g3, g4, -, -⟩ := zarr (C hG).2.2.2.2.2.2.2.1 hR hv hc.1 hc.2 (by omega) (by omega)
    refine W.alen (C hG).1 (C hG).2.1 g1 g2 g4.2 rfl rfl hd ?_
    refine h2 hG H locs ls _ hR hL ⟨⟨_, rfl, ?_⟩, hT⟩ h3 h4 h5 h6
    have := zshp_le q
    exact Int32.toInt_ofNat_of_lt (by omega)
  · exact znone
end ZHEAP2
