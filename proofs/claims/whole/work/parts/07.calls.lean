section ZCALLS
variable {G : Prop} {p : Program} {l : Launch} {e : Env} {R : Room} {s : State} {m : MethodId} {args : Array Value} {below : List Frame} {meth : Method} {c : Code} {w : zW} {own : String} {cc : ByteArray} {nL n0 D rk : Nat} {ret : Option FieldType} {Q : Int → zMem → State → Prop} {pc pc' : Nat} {la : List (Nat × zV)} {st : List zV} {μ : zMem} {t : zRs}
/-! ### ends -/
theorem zend {st : List zV} {x : Int} (C : G → zCx w own cc nL ret D R p s m args meth c)
    (hw : G → ∀ (H : Heap) (locs : List Loc) (ls : Array Slot) (sc : List Value), zRep w μ H → zsR w (znc μ) st sc → (∀ q ∈ locs, w.1 ≤ q.base) → W p l e R s m args below meth c H locs (znc μ - n0) (zps (znc μ) - zps n0) (MQ below (zQ w rk x μ) args s (znc μ - n0) (zps (znc μ) - zps n0) (fun q => w.1 ≤ q)) (F0 m pc ls sc)) :
    zSim G p l e R s m args below meth c w nL n0 (zM w rk n0 below args s) pc la st μ (some (x, μ)) := by
  intro r μ' ht
  cases ht
  exact ⟨Nat.le_refl _, fun hG H locs ls sc hR hL hS h3 h4 h5 h6 => hw hG H locs ls sc hR hS h3⟩
theorem z_ireturn {x : Int} (C : G → zCx w own cc nL (some .int) D R p s m args meth c) (hd : decode cc pc = .ok (.ireturn, 1)) : zSim G p l e R s m args below meth c w nL n0 (zM w 1 n0 below args s) pc la [zI x] μ (some (x, μ)) := by
  refine zend C (fun hG H locs ls sc hR hS h3 => ?_)
  obtain ⟨_, sc, rfl, ⟨i, rfl, hi⟩, hT⟩ := zsR_cons hS
  cases zsR_nil hT
  exact W.iret (C hG).1 (C hG).2.1 (C hG).2.2.2.2.2.1 (fun t ht _ => ⟨_, rfl, ⟨_, rfl, i, rfl, hi⟩, by rw [ht]; exact hR⟩) h3 hd (C hG).2.2.2.2.2.2.1
theorem z_zreturn {x : Int} (C : G → zCx w own cc nL (some .boolean) D R p s m args meth c) (hd : decode cc pc = .ok (.ireturn, 1)) : zSim G p l e R s m args below meth c w nL n0 (zM w 1 n0 below args s) pc la [zI x] μ (zbl x (some (x, μ))) := by
  unfold zbl
  split
  rotate_left
  · exact fun _ _ h => by cases h
  rename_i hbl
  refine zend C (fun hG H locs ls sc hR hS h3 => ?_)
  obtain ⟨_, sc, rfl, ⟨i, rfl, hi⟩, hT⟩ := zsR_cons hS
  cases zsR_nil hT
  have hnr : narrow .boolean (.int i) = .int i := by rcases hbl with rfl | rfl <;> (have : i = _ := Int32.toInt_inj.mp (hi.trans (by first | exact (Int32.toInt_zero).symm | exact (Int32.toInt_one).symm)); subst this; rfl)
  exact W.zret (C hG).1 (C hG).2.1 (C hG).2.2.2.2.2.1 hnr (fun t ht _ => ⟨_, rfl, ⟨_, rfl, i, rfl, hi⟩, by rw [ht]; exact hR⟩) h3 hd (C hG).2.2.2.2.2.2.1
theorem z_lreturn {x : Int} (C : G → zCx w own cc nL (some .long) D R p s m args meth c) (hd : decode cc pc = .ok (.lreturn, 1)) : zSim G p l e R s m args below meth c w nL n0 (zM w 2 n0 below args s) pc la [zL x] μ (some (x, μ)) := by
  refine zend C (fun hG H locs ls sc hR hS h3 => ?_)
  obtain ⟨_, sc, rfl, ⟨i, rfl, hi⟩, hT⟩ := zsR_cons hS
  cases zsR_nil hT
  exact W.lret (C hG).1 (C hG).2.1 (C hG).2.2.2.2.2.1 (fun t ht _ => ⟨_, rfl, ⟨_, rfl, i, rfl, hi⟩, by rw [ht]; exact hR⟩) h3 hd (C hG).2.2.2.2.2.2.1
theorem z_areturn {x : Int} {cn : String} (C : G → zCx w own cc nL (some (.object cn)) D R p s m args meth c) (hd : decode cc pc = .ok (.areturn, 1)) : zSim G p l e R s m args below meth c w nL n0 (zM w 3 n0 below args s) pc la [zR x] μ (some (x, μ)) := by
  refine zend C (fun hG H locs ls sc hR hS h3 => ?_)
  obtain ⟨v, sc, rfl, hv, hT⟩ := zsR_cons hS
  cases zsR_nil hT
  refine W.aret (C hG).1 (C hG).2.1 (C hG).2.2.2.2.2.1 (Or.inl ⟨_, rfl⟩) ?_ (fun t ht _ => ⟨_, rfl, ⟨_, rfl, hv⟩, by rw [ht]; exact hR⟩) h3 hd (C hG).2.2.2.2.2.2.1
  rcases hv with ⟨-, rfl⟩ | ⟨k, -, -, rfl⟩
  · exact Or.inl rfl
  · exact Or.inr ⟨_, rfl⟩
theorem z_return (C : G → zCx w own cc nL none D R p s m args meth c) (hd : decode cc pc = .ok (.return_, 1)) : zSim G p l e R s m args below meth c w nL n0 (zM w 0 n0 below args s) pc la [] μ (some (0, μ)) := by
  refine zend C (fun hG H locs ls sc hR hS h3 => ?_)
  cases zsR_nil hS
  exact W.vret (C hG).1 (C hG).2.1 (C hG).2.2.2.2.2.1 (fun t ht _ => ⟨_, rfl, rfl, by rw [ht]; exact hR⟩) h3 hd (C hG).2.2.2.2.2.2.1
/-! ### a method's contract out of its walk -/
def zla : Nat → List zV → List (Nat × zV)
  | _, [] => []
  | i, v :: vs => (i, v) :: zla (if zcat v = 2 then i + 2 else i + 1) vs
def zwd : List zV → Nat
  | [] => 0
  | v :: vs => zcat v + zwd vs
theorem zla_R {n : Nat} : ∀ {i : Nat} {As : List zV} {Ac : List Value}, zsR w n As Ac → zlC w n (zla i As) (lv_args i Ac)
  | _, [], [], _ => trivial
  | _, [], _ :: _, h => h.elim
  | _, _ :: _, [], h => h.elim
  | i, x :: As, v :: Ac, h => by
    unfold zla lv_args
    rw [zrv_cat h.1]
    exact ⟨⟨rfl, h.1⟩, zla_R h.2⟩
theorem zwd_len {n : Nat} : ∀ {As : List zV} {Ac : List Value}, zsR w n As Ac → (lg_sl Ac).length = zwd As
  | [], [], _ => rfl
  | [], _ :: _, h => h.elim
  | _ :: _, [], h => h.elim
  | x :: As, v :: Ac, h => by
    have ih := zwd_len h.2
    unfold lg_sl at ih ⊢
    rw [List.flatMap_cons, List.length_append, ih]
    show _ = zcat x + zwd As
    rw [← zrv_cat h.1]
    split
    · rename_i e; rw [e]; rfl
    · rename_i e
      rcases lv_cat v with h1 | h1
      · rw [h1]; rfl
      · exact absurd h1 e
theorem zSpc_of {d : Nat} {y : MethodName} {b : ByteArray} {nL : Nat} {ret : Option FieldType} {rk : Nat} {As : List zV} {μ : zMem} {t : zRs} (hy : plainName y.cls = true) (hown : y.cls = own) (hwd : zwd As ≤ nL)
    (body : ∀ (G : Prop) (p : Program) (e : Env) (R : Room) (s : State) (m : MethodId) (args : Array Value) (below : List Frame) (meth : Method) (c : Code), (G → zCx w own b nL ret d R p s m args meth c) → (G → meth.name = y.name) →
      zSim G p l e R s m args below meth c w nL (znc μ) (zM w rk (znc μ) below args s) 0 (zla 0 As) [] μ t) : zSpc l w d y b nL ret rk As μ t := by
  intro r μ' ht
  refine ⟨fun p e R s m args below meth c => (body False p e R s m args below meth c False.elim False.elim r μ' ht).1, fun Ac hAs => ?_⟩
  refine Met.ofW (cc := b) (maxL := nL) (ret := ret) hy rfl ?_
  intro p e s m args below meth c s₁ B hml hv
  obtain ⟨rfl, hR, hK⟩ := hv
  have C : zCx w own b nL ret d { frames := d, cells := znc μ' - znc μ, slots := zps (znc μ') - zps (znc μ), locals := 60 * d } p s m Ac.toArray meth c :=
    ⟨B.exec, B.bytes, hml, hown ▸ findClass_of_methodNamed B.named, fun z hz => atoms_spec (ws := .code y b nL ret :: zwt) B.pre z (List.mem_cons_of_mem _ hz), B.returns, B.notSynchronized, hK, Nat.le_refl _, Nat.le_refl _⟩
  obtain ⟨h1, h2⟩ := body True p e _ s m Ac.toArray below meth c (fun _ => C) (fun _ => (name_of_methodNamed B.named B.method).1) r μ' ht
  have hl := lv_entry Ac (n := nL) (by rw [zwd_len hAs]; exact hwd)
  rw [lg_entry_eq]
  have h3 := h2 trivial s.heap [] _ [] hR ⟨_, hl, zla_R hAs⟩ trivial (fun q hq => by cases hq) (Nat.le_refl _) (Nat.le_refl _) (Nat.le_refl _)
  rw [Nat.sub_self, Nat.sub_self] at h3
  exact h3
end ZCALLS
