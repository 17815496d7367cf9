/-! ===== the classes' words, and the judgement's rows for instructions that touch the heap ===== -/
theorem zin0 : ∀ z ∈ wsX00, z ∈ zwt := fun z h => have g := goodIn_p (big := lw_tbl) wsX00 [] rfl (by decide +kernel) z h; zmem g.1 (zgw g.2)
theorem zin1 : ∀ z ∈ wsX10, z ∈ zwt := fun z h => have g := goodIn_p (big := lw_tbl) wsX10 [] rfl (by decide +kernel) z h; zmem g.1 (zgw g.2)
theorem zin2 : ∀ z ∈ wsX20, z ∈ zwt := fun z h => have g := goodIn_p (big := lw_tbl) wsX20 [] rfl (by decide +kernel) z h; zmem g.1 (zgw g.2)
theorem zin3 : ∀ z ∈ wsX30, z ∈ zwt := fun z h => have g := goodIn_p (big := lw_tbl) wsX30 [] rfl (by decide +kernel) z h; zmem g.1 (zgw g.2)
theorem zin4 : ∀ z ∈ wsX40, z ∈ zwt := fun z h => have g := goodIn_p (big := lw_tbl) wsX40 [] rfl (by decide +kernel) z h; zmem g.1 (zgw g.2)
theorem zin5 : ∀ z ∈ wsX50, z ∈ zwt := fun z h => have g := goodIn_p (big := lw_tbl) wsX50 [] rfl (by decide +kernel) z h; zmem g.1 (zgw g.2)
theorem zin6 : ∀ z ∈ wsX60, z ∈ zwt := fun z h => have g := goodIn_p (big := lw_tbl) wsX60 [] rfl (by decide +kernel) z h; zmem g.1 (zgw g.2)
theorem zin7 : ∀ z ∈ wsX70, z ∈ zwt := fun z h => have g := goodIn_p (big := lw_tbl) wsX70 [] rfl (by decide +kernel) z h; zmem g.1 (zgw g.2)
theorem zin8 : ∀ z ∈ wsX80, z ∈ zwt := fun z h => have g := goodIn_p (big := lw_tbl) wsX80 [] rfl (by decide +kernel) z h; zmem g.1 (zgw g.2)
theorem zin9 : ∀ z ∈ wsX90, z ∈ zwt := fun z h => have g := goodIn_p (big := lw_tbl) wsX90 [] rfl (by decide +kernel) z h; zmem g.1 (zgw g.2)
theorem zin10 : ∀ z ∈ wsX100, z ∈ zwt := fun z h => have g := goodIn_p (big := lw_tbl) wsX100 [] rfl (by decide +kernel) z h; zmem g.1 (zgw g.2)
theorem zin11 : ∀ z ∈ wsX110, z ∈ zwt := fun z h => have g := goodIn_p (big := lw_tbl) wsX110 [] rfl (by decide +kernel) z h; zmem g.1 (zgw g.2)
def zCF (ci : Nat) (C : String) (T : u_T) (N : Nat) : Prop := (∀ z ∈ u_ws C T N, z ∈ zwt) ∧ (∀ k, k < N → parseFieldDescriptor (T k).2.2.1 = some (zty ci k)) ∧ ∀ a, a < N → ∀ b, b < N → a ≠ b → (T a).2.1 ≠ (T b).2.1
theorem zcf {ci : Nat} {C : String} {T : u_T} {N : Nat} (h : vwCl[ci]? = some (C, T, N)) : zCF ci C T N := by
  have hl : ci < 12 := (List.getElem?_eq_some_iff.mp h).1
  have key : ∀ q, vwCl[ci]? = some q → zCF ci q.1 q.2.1 q.2.2 := by
    rcases (show ci = 0 ∨ ci = 1 ∨ ci = 2 ∨ ci = 3 ∨ ci = 4 ∨ ci = 5 ∨ ci = 6 ∨ ci = 7 ∨ ci = 8 ∨ ci = 9 ∨ ci = 10 ∨ ci = 11 by omega) with rfl | rfl | rfl | rfl | rfl | rfl | rfl | rfl | rfl | rfl | rfl | rfl <;> intro q hq <;> cases hq
    · exact ⟨zin0, tyX0_ok, nmX0⟩
    · exact ⟨zin1, tyX1_ok, nmX1⟩
    · exact ⟨zin2, tyX2_ok, nmX2⟩
    · exact ⟨zin3, tyX3_ok, nmX3⟩
    · exact ⟨zin4, tyX4_ok, nmX4⟩
    · exact ⟨zin5, tyX5_ok, nmX5⟩
    · exact ⟨zin6, tyX6_ok, nmX6⟩
    · exact ⟨zin7, tyX7_ok, nmX7⟩
    · exact ⟨zin8, tyX8_ok, nmX8⟩
    · exact ⟨zin9, tyX9_ok, nmX9⟩
    · exact ⟨zin10, tyX10_ok, nmX10⟩
    · exact ⟨zin11, tyX11_ok, nmX11⟩
  exact key _ h
theorem znF_of {ci : Nat} {C : String} {T : u_T} {N : Nat} (h : vwCl[ci]? = some (C, T, N)) : znF ci = N := by
  unfold znF
  rw [h]
def zokT : FieldType → Bool
  | .int | .boolean | .long | .object _ | .array _ => true
  | _ => false
theorem zty_ok : ∀ ci, ci < 12 → ∀ j, j < znF ci → zokT (zty ci j) = true := by decide +kernel
theorem zshp_le (k : Nat) : (zshp k).2 ≤ 1000 := by
  have h : zSHL.all (fun q => decide (q.2 ≤ 1000)) = true := by decide +kernel
  unfold zshp
  rw [List.getD_eq_getElem?_getD]
  cases hq : zSHL[k]? with
  | none => exact Nat.zero_le _
  | some q => exact of_decide_eq_true (List.all_eq_true.mp h q (List.mem_of_getElem? hq))
theorem zshp_old : ∀ k, 1 ≤ k → k ≤ 4 → (zshp k).1 = 20 := by
  intro k h1 h2
  rcases (show k = 1 ∨ k = 2 ∨ k = 3 ∨ k = 4 by omega) with rfl | rfl | rfl | rfl <;> decide +kernel
/-- a default stands for 0, or -1 -/
theorem zrv_default {w : zW} {n : Nat} {ty : FieldType} (h : zokT ty = true) : zrv w n (zmk (ztg ty) (zdf (ztg ty))) (defaultValue ty) := by
  cases ty <;> first | exact absurd h (by decide) | exact ⟨0, rfl, rfl⟩ | exact Or.inl ⟨rfl, rfl⟩
/-- what is stored in a field or a row of its type fits, and isn't narrowed (booleans apart) -/
theorem zrv_fits {w : zW} {n : Nat} {ty : FieldType} {x : Int} {v : Value} (h : zokT ty = true) (hb : ty ≠ .boolean) (hv : zrv w n (zmk (ztg ty) x) v) : narrow ty v = v ∧ fits ty v = true := by
  cases ty with
  | int => obtain ⟨i, rfl, -⟩ := hv; exact ⟨rfl, rfl⟩
  | long => obtain ⟨i, rfl, -⟩ := hv; exact ⟨rfl, rfl⟩
  | object C => rcases hv with ⟨-, rfl⟩ | ⟨k, -, -, rfl⟩ <;> exact ⟨rfl, rfl⟩
  | array t => rcases hv with ⟨-, rfl⟩ | ⟨k, -, -, rfl⟩ <;> exact ⟨rfl, rfl⟩
  | boolean => exact absurd rfl hb
  | _ => exact absurd h (by decide)
theorem zupd_nc {μ : zMem} {a j v : Int} (h : 0 ≤ a) : znc (zupd μ a j v) = znc μ := by
  unfold znc zupd
  rw [if_neg (by omega)]
theorem zcell_setA {w : zW} {n : Nat} {sh : Nat × Nat} {row : Int → Int} {cell : Cell} {j : Nat} {x : Int} {v : Value} (h : zcR w n sh row cell) (hk : 20 ≤ sh.1) (hj : j < sh.2) (hv : zrv w n (zmk (ztg (zat sh.1)) x) v) :
    zcR w n sh (fun j' => if j' = (j : Int) then x else row j') (cell.setSlot j v) := by
  obtain ⟨h1, -, h3⟩ := h
  obtain ⟨h4, h5, h6⟩ := h3 hk
  refine ⟨h1, fun hc => by omega, fun _ => ⟨h4, by rw [k2_slotsz]; exact h5, fun i hi => ?_⟩⟩
  by_cases e : i = j
  · subst e
    refine ⟨v, ?_, by dsimp only; rw [if_pos rfl]; exact hv⟩
    simp [Cell.setSlot, h5, hj]
  · obtain ⟨u, g1, g2⟩ := h6 i hi
    refine ⟨u, ?_, by dsimp only; rw [if_neg (by omega)]; exact g2⟩
    simp only [Cell.setSlot]
    rw [Array.getElem?_setIfInBounds_ne (by omega)]
    exact g1
theorem zcell_setC {w : zW} {n : Nat} {sh : Nat × Nat} {row : Int → Int} {cell : Cell} {j : Nat} {x : Int} {v : Value} (h : zcR w n sh row cell) (hk : sh.1 < 12) (hj : j < znF sh.1) (hap : ∀ a b, a < znF sh.1 → b < znF sh.1 → a ≠ b → w.2.2.1.2 sh.1 a ≠ w.2.2.1.2 sh.1 b) (hv : zrv w n (zmk (ztg (zty sh.1 j)) x) v) :
    zcR w n sh (fun j' => if j' = (j : Int) then x else row j') (cell.setSlot (w.2.2.1.2 sh.1 j) v) := by
  obtain ⟨h1, h2, -⟩ := h
  obtain ⟨h4, h6⟩ := h2 hk
  refine ⟨h1, fun _ => ⟨h4, fun i hi => ?_⟩, fun hc => by omega⟩
  by_cases e : i = j
  · subst e
    obtain ⟨u, g1, -⟩ := h6 i hi
    refine ⟨v, ?_, by dsimp only; rw [if_pos rfl]; exact hv⟩
    have := k2_hasslot g1
    simp [Cell.setSlot, this]
  · obtain ⟨u, g1, g2⟩ := h6 i hi
    refine ⟨u, ?_, by dsimp only; rw [if_neg (by omega)]; exact g2⟩
    simp only [Cell.setSlot]
    rw [Array.getElem?_setIfInBounds_ne (fun q => hap i j hi hj e q.symm)]
    exact g1
/-- one cell changes -/
theorem zRep_row {w : zW} {μ μ2 : zMem} {H H' : Heap} {k : Nat} {cell' : Cell} (hR : zRep w μ H) (hk : k < znc μ) (e1 : H'[w.1 + k]? = some cell') (e2 : H'.size = H.size) (e3 : ∀ q : Nat, q ≠ w.1 + k → H'[q]? = H[q]?)
    (hn : znc μ2 = znc μ) (ho : ∀ a j : Int, a ≠ ((5 + k : Nat) : Int) → 0 ≤ a → μ2 a j = μ a j) (hc : zcR w (znc μ) (zshp (5 + k)) (μ2 ((5 + k : Nat) : Int)) cell') : zRep w μ2 H' := by
  obtain ⟨h1, h2, h3, h4⟩ := hR
  refine ⟨by rw [e2, hn]; exact h1, fun q hq => by rw [e3 q (by omega)]; exact h2 q hq, fun i hi => ?_, fun i j hi hi4 hj => ?_⟩
  · rw [hn] at hi ⊢
    by_cases e : i = k
    · subst e
      exact ⟨cell', e1, hc⟩
    · obtain ⟨cell, g1, g2⟩ := h3 i hi
      refine ⟨cell, by rw [e3 _ (by omega)]; exact g1, ?_⟩
      have : μ2 ((5 + i : Nat) : Int) = μ ((5 + i : Nat) : Int) := funext fun j => ho _ j (by omega) (by omega)
      rw [this]
      exact g2
  · rw [ho _ _ (by omega) (by omega)]
    exact h4 i j hi hi4 hj
theorem zRep_upd {w : zW} {μ : zMem} {H H' : Heap} {k : Nat} {j v : Int} {cell' : Cell} (hR : zRep w μ H) (hk : k < znc μ) (e1 : H'[w.1 + k]? = some cell') (e2 : H'.size = H.size) (e3 : ∀ q : Nat, q ≠ w.1 + k → H'[q]? = H[q]?)
    (hc : zcR w (znc μ) (zshp (5 + k)) (fun j' => if j' = j then v else μ ((5 + k : Nat) : Int) j') cell') : zRep w (zupd μ ((5 + k : Nat) : Int) j v) H' := by
  refine zRep_row hR hk e1 e2 e3 (zupd_nc (by omega)) (fun a i ha _ => ?_) ?_
  · unfold zupd
    rw [if_neg (fun q => ha q.1)]
  · have : zupd μ ((5 + k : Nat) : Int) j v ((5 + k : Nat) : Int) = (fun j' => if j' = j then v else μ ((5 + k : Nat) : Int) j') := by
      funext i
      unfold zupd
      simp
    rw [this]
    exact hc
theorem zad_new {w : zW} {k : Nat} : zad w (5 + k) = w.1 + k := by
  unfold zad
  rw [if_neg (by omega)]
  omega
section ZHEAP
variable {G : Prop} {p : Program} {l : Launch} {e : Env} {R : Room} {s : State} {m : MethodId} {args : Array Value} {below : List Frame} {meth : Method} {c : Code} {w : zW} {own : String} {cc : ByteArray} {nL n0 D : Nat} {ret : Option FieldType} {Q : Int → zMem → State → Prop} {pc pc' : Nat} {la : List (Nat × zV)} {st : List zV} {μ : zMem} {t : zRs}
theorem zisC_spec {ci : Nat} {a : Int} (h : zisC ci a = true) : ∃ k : Nat, a = ((5 + k : Nat) : Int) ∧ (zshp (5 + k)).1 = ci := by
  simp only [zisC, Bool.and_eq_true, decide_eq_true_eq, beq_iff_eq] at h
  refine ⟨a.toNat - 5, by omega, ?_⟩
  rw [show 5 + (a.toNat - 5) = a.toNat by omega]
  exact h.2
/-- the cell of an object of a class -/
theorem zobj {ci : Nat} {a : Int} {v : Value} {H : Heap} (hR : zRep w μ H) (hv : zrv w (znc μ) (zR a) v) (h : zisC ci a = true) : ∃ (k : Nat) (cell : Cell), a = ((5 + k : Nat) : Int) ∧ k < znc μ ∧ (zshp (5 + k)).1 = ci ∧ v = .ref (w.1 + k) ∧ H[w.1 + k]? = some cell ∧ zcR w (znc μ) (zshp (5 + k)) (μ a) cell := by
  obtain ⟨k, rfl, hk⟩ := zisC_spec h
  rcases hv with ⟨h1, -⟩ | ⟨q, h1, h2, h3⟩
  · omega
  · have hq : q = 5 + k := by omega
    subst hq
    obtain ⟨cell, g1, g2⟩ := hR.2.2.1 k (by omega)
    exact ⟨k, cell, rfl, by omega, hk, by rw [h3, zad_new], g1, g2⟩
/-- a field's link: class, place, kind of number -/
def zFL (own : String) (idx ci j tg : Nat) : Prop := ∃ (C : String) (T : u_T) (N : Nat), vwCl[ci]? = some (C, T, N) ∧ j < N ∧ Cond.fieldLink own idx C (T j).2.1 (T j).2.2.1 ∈ zwt ∧ (T j).1 = C ∧ ztg (zty ci j) = tg
theorem zgetf_core {idx ci j tg : Nat} {a : Int} {k : Int → zRs} (C : G → zCx w own cc nL ret D R p s m args meth c) (hf : zFL own idx ci j tg) (hd : decode cc pc = .ok (.getfield idx, 3))
    (K : ∀ x, zSim G p l e R s m args below meth c w nL n0 Q (pc + 3) la (zmk tg x :: st) μ (k x)) : zSim G p l e R s m args below meth c w nL n0 Q pc la (zR a :: st) μ (zgf ci j a μ k) := by
  unfold zgf
  split
  · rename_i hc
    intro r μ' ht
    obtain ⟨h1, h2⟩ := K _ r μ' ht
    refine ⟨h1, fun hG H locs ls sc hR hL hS h3 h4 h5 h6 => ?_⟩
    obtain ⟨v, sc, rfl, hv, hT⟩ := zsR_cons hS
    obtain ⟨kk, cell, rfl, hkn, hkd, rfl, hcell, hz⟩ := zobj hR hv hc
    obtain ⟨CN, T, N, hcl, hj, hlk, hT1, htg⟩ := hf
    obtain ⟨hcf1, hcf2, -⟩ := zcf hcl
    have hci : ci < 12 := (List.getElem?_eq_some_iff.mp hcl).1
    obtain ⟨hz1, hz2, -⟩ := hz
    obtain ⟨hz3, hz4⟩ := hz2 (by omega)
    rw [hkd] at hz4 hz3
    obtain ⟨x, hx, hxr⟩ := hz4 j (by rw [znF_of hcl]; exact hj)
    have hK := (C hG).2.2.2.2.2.2.2.1.2.1
    obtain ⟨hSl, hfc, kC, hkC, -⟩ := hK.1 ci _ hcl
    obtain ⟨cf, kf, fi, f, hi, hsl⟩ := hSl j hj
    have hst := (u_facts hfc hkC (u_lays (ws := zwt) (C hG).2.2.2.2.1 hcf1 hj) hi).1
    rw [hT1] at hi
    refine W.getf (C hG).1 (C hG).2.1 (C hG).2.2.2.1 ((C hG).2.2.2.2.1 _ hlk) hi hst hcell (by rw [hz1]; intro q; cases q) (by rw [hsl]; exact hx) rfl rfl hd ?_
    exact h2 hG H locs ls _ hR hL ⟨by rw [← htg]; exact hxr, hT⟩ h3 h4 h5 h6
  · exact znone
theorem z_getf {idx ci j : Nat} {a : Int} {k : Int → zRs} (C : G → zCx w own cc nL ret D R p s m args meth c) (hf : zFL own idx ci j 0) (hd : decode cc pc = .ok (.getfield idx, 3)) (hpc : pc + 3 = pc')
    (K : ∀ x, zSim G p l e R s m args below meth c w nL n0 Q pc' la (zI x :: st) μ (k x)) : zSim G p l e R s m args below meth c w nL n0 Q pc la (zR a :: st) μ (zgf ci j a μ k) := by
  subst hpc
  exact zgetf_core C hf hd K
theorem z_getfL {idx ci j : Nat} {a : Int} {k : Int → zRs} (C : G → zCx w own cc nL ret D R p s m args meth c) (hf : zFL own idx ci j 1) (hd : decode cc pc = .ok (.getfield idx, 3)) (hpc : pc + 3 = pc')
    (K : ∀ x, zSim G p l e R s m args below meth c w nL n0 Q pc' la (zL x :: st) μ (k x)) : zSim G p l e R s m args below meth c w nL n0 Q pc la (zR a :: st) μ (zgf ci j a μ k) := by
  subst hpc
  exact zgetf_core C hf hd K
theorem z_getfR {idx ci j : Nat} {a : Int} {k : Int → zRs} (C : G → zCx w own cc nL ret D R p s m args meth c) (hf : zFL own idx ci j 2) (hd : decode cc pc = .ok (.getfield idx, 3)) (hpc : pc + 3 = pc')
    (K : ∀ x, zSim G p l e R s m args below meth c w nL n0 Q pc' la (zR x :: st) μ (k x)) : zSim G p l e R s m args below meth c w nL n0 Q pc la (zR a :: st) μ (zgf ci j a μ k) := by
  subst hpc
  exact zgetf_core C hf hd K
theorem zputf_core {idx ci j tg : Nat} {a x : Int} {k : zMem → zRs} (C : G → zCx w own cc nL ret D R p s m args meth c) (hf : zFL own idx ci j tg) (hd : decode cc pc = .ok (.putfield idx, 3)) (hnb : zty ci j ≠ .boolean)
    (hfin : ∀ (C' : String) (T : u_T) (N : Nat), vwCl[ci]? = some (C', T, N) → (T j).2.2.2 = false ∨ (own = C' ∧ (G → meth.name = "<init>")))
    (K : ∀ μ', znc μ' = znc μ → zSim G p l e R s m args below meth c w nL n0 Q (pc + 3) la st μ' (k μ')) : zSim G p l e R s m args below meth c w nL n0 Q pc la (zmk tg x :: zR a :: st) μ (zpf ci j a x μ k) := by
  unfold zpf
  split
  · rename_i hc
    intro r μ' ht
    have ha5 : 0 ≤ a := by
      obtain ⟨q, rfl, -⟩ := zisC_spec hc
      omega
    obtain ⟨h1, h2⟩ := K _ (zupd_nc ha5) r μ' ht
    rw [zupd_nc ha5] at h1 h2
    refine ⟨h1, fun hG H locs ls sc hR hL hS h3 h4 h5 h6 => ?_⟩
    obtain ⟨vx, sc, rfl, hvx, hU⟩ := zsR_cons hS
    obtain ⟨v, sc, rfl, hv, hT⟩ := zsR_cons hU
    obtain ⟨kk, cell, rfl, hkn, hkd, rfl, hcell, hz⟩ := zobj hR hv hc
    obtain ⟨CN, T, N, hcl, hj, hlk, hT1, htg⟩ := hf
    obtain ⟨hcf1, hcf2, hcf3⟩ := zcf hcl
    have hci : ci < 12 := (List.getElem?_eq_some_iff.mp hcl).1
    have hz0 := hz
    obtain ⟨hz1, hz2, -⟩ := hz
    obtain ⟨hz3, hz4⟩ := hz2 (by omega)
    rw [hkd] at hz4 hz3
    obtain ⟨u, hu, hur⟩ := hz4 j (by rw [znF_of hcl]; exact hj)
    have hK := (C hG).2.2.2.2.2.2.2.1.2.1
    have hap := va_apart (own := own) (C hG).2.2.2.2.1 hcf1 (zty ci) hcf2 hcf3 hK hcl
    obtain ⟨hSl, hfc, kC, hkC, hkind⟩ := hK.1 ci _ hcl
    obtain ⟨cf, kf, fi, f, hi, hsl⟩ := hSl j hj
    have hls := u_lays (ws := zwt) (C hG).2.2.2.2.1 hcf1 hj
    have hst := (u_facts hfc hkC hls hi).1
    have hok := zrv_fits (zty_ok ci hci j (by rw [znF_of hcl]; exact hj)) hnb (by rw [htg]; exact hvx)
    have hin := hcf2 j hj
    have fin : ∀ H' : Heap, H'[w.1 + kk]? = some (cell.setSlot f.slot vx) → H'.size = H.size → (∀ q, q ≠ w.1 + kk → H'[q]? = H[q]?) → W p l e R s m args below meth c H' (locs ++ [⟨w.1 + kk, f.slot⟩]) (znc μ - n0) (zps (znc μ) - zps n0) (Q r μ') (F0 m (pc + 3) ls sc) := by
      intro H' e1 e2 e3
      refine h2 hG H' _ ls sc (zRep_upd hR hkn e1 e2 e3 ?_) hL hT (fun q hq => ?_) h4 h5 h6
      · rw [hsl]
        have := zcell_setC (w := w) (n := znc μ) (sh := zshp (5 + kk)) (row := μ ((5 + kk : Nat) : Int)) (cell := cell) (j := j) (x := x) (v := vx) hz0 (by omega) (by rw [hkd, znF_of hcl]; exact hj) (by rw [hkd, znF_of hcl]; exact hap) (by rw [hkd, htg]; exact hvx)
        rw [hkd] at this
        exact this
      · rcases List.mem_append.mp hq with h | h
        · exact h3 q h
        · cases List.mem_singleton.mp h
          exact Nat.le_add_right _ _
    rcases hfin _ _ _ hcl with hff | ⟨ho, hini⟩
    · have hlay := (C hG).2.2.2.2.1 _ (hcf1 _ (u_in_lay hj))
      unfold u_lay at hlay
      rw [if_neg (by rw [hff]; decide)] at hlay
      have h6' := u_store hfc hkC hkind hlay hi hin hok.1 hok.2
      rw [hT1] at hi
      exact W.putK (C hG).1 (C hG).2.1 (f := f) ⟨(C hG).2.2.2.1, (C hG).2.2.2.2.1 _ hlk, ⟨_, _, _, hi⟩, hst⟩ (by rw [hz3]; exact h6') hcell hz1 (by rw [hsl]; exact k2_hasslot hu) rfl rfl hd fin
    · by_cases hff : (T j).2.2.2 = false
      · have hlay := (C hG).2.2.2.2.1 _ (hcf1 _ (u_in_lay hj))
        unfold u_lay at hlay
        rw [if_neg (by rw [hff]; decide)] at hlay
        have h6' := u_store hfc hkC hkind hlay hi hin hok.1 hok.2
        rw [hT1] at hi
        exact W.putK (C hG).1 (C hG).2.1 (f := f) ⟨(C hG).2.2.2.1, (C hG).2.2.2.2.1 _ hlk, ⟨_, _, _, hi⟩, hst⟩ (by rw [hz3]; exact h6') hcell hz1 (by rw [hsl]; exact k2_hasslot hu) rfl rfl hd fin
      · have hlay := (C hG).2.2.2.2.1 _ (hcf1 _ (u_in_lay hj))
        unfold u_lay at hlay
        rw [if_pos (by cases hq : (T j).2.2.2 with | false => exact absurd hq hff | true => rfl)] at hlay
        have hcf : m.cls = cf := by
          obtain ⟨_, _, c', _, _, _, -, -, hf', -, -, -, hown2, -⟩ := Cond.laysFinal_spec hlay
          have e1 : c' = cf := by have := hi.symm.trans hf'; simp at this; exact this.1.symm
          rw [hT1, ← ho] at hown2
          rw [← e1]; exact Option.some.inj ((C hG).2.2.2.1.symm.trans hown2)
        have h6' := u_fits hfc hkC hkind (Or.inr hlay) hi hin hok.1 hok.2
        rw [hT1] at hi
        exact W.putFinK (C hG).1 (C hG).2.1 (C hG).2.2.2.1 ((C hG).2.2.2.2.1 _ hlk) hi hst hcf (hini hG) (by rw [hz3]; exact h6') hcell hz1 (by rw [hsl]; exact k2_hasslot hu) rfl rfl hd fin
  · exact znone
end ZHEAP
