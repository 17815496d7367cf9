section ZOPS
variable {G : Prop} {p : Program} {l : Launch} {e : Env} {R : Room} {s : State} {m : MethodId} {args : Array Value} {below : List Frame} {meth : Method} {c : Code} {w : zW} {own : String} {cc : ByteArray} {nL n0 D : Nat} {ret : Option FieldType} {Q : Int → zMem → State → Prop} {pc pc' : Nat} {la : List (Nat × zV)} {st : List zV} {μ : zMem} {t : zRs}
theorem zstep {la' : List (Nat × zV)} {st' : List zV} (hw : G → ∀ (H : Heap) (locs : List Loc) (cells slots : Nat) (QQ : State → Prop) (ls : Array Slot) (sc : List Value), zlR w (znc μ) nL la ls → zsR w (znc μ) st sc → (∀ (ls' : Array Slot) (sc' : List Value), zlR w (znc μ) nL la' ls' → zsR w (znc μ) st' sc' → W p l e R s m args below meth c H locs cells slots QQ (F0 m pc' ls' sc')) → W p l e R s m args below meth c H locs cells slots QQ (F0 m pc ls sc))
    (K : zSim G p l e R s m args below meth c w nL n0 Q pc' la' st' μ t) : zSim G p l e R s m args below meth c w nL n0 Q pc la st μ t := by
  intro r μ' ht
  obtain ⟨h1, h2⟩ := K r μ' ht
  exact ⟨h1, fun hG H locs ls sc hR hL hS h3 h4 h5 h6 => hw hG H locs _ _ _ ls sc hL hS (fun ls' sc' hL' hS' => h2 hG H locs ls' sc' hR hL' hS' h3 h4 h5 h6)⟩
theorem znone : zSim G p l e R s m args below meth c w nL n0 Q pc la st μ none := fun _ _ h => by cases h
theorem zlocs {lb : List (Nat × zV)} (hb : zsub la lb) (K : zSim G p l e R s m args below meth c w nL n0 Q pc lb st μ t) : zSim G p l e R s m args below meth c w nL n0 Q pc la st μ t := by
  refine zstep (fun hG H locs cells slots QQ ls sc hL hS kk => kk ls sc (zlR_sub hL hb) hS) K
theorem zjoin {α : Type} {P : α → Prop} {J : α} {body : α → zRs} (hJ : P J) (hb : ∀ k, P k → zSim G p l e R s m args below meth c w nL n0 Q pc la st μ (body k)) : zSim G p l e R s m args below meth c w nL n0 Q pc la st μ (zjn J body) := hb J hJ
theorem zlp_ind {α : Type} (P : α → Prop) {bot : α} {F : α → α} (h0 : P bot) (h1 : ∀ f, P f → P (F f)) : ∀ n, P (zlp bot F n)
  | 0 => h0
  | n + 1 => h1 _ (zlp_ind P h0 h1 n)
theorem zw32_bmod (x : Int) : Int.bmod x 4294967296 = zw32 x := by
  unfold zw32 Int.bmod
  dsimp only
  split <;> omega
theorem zw64_bmod (x : Int) : Int.bmod x 18446744073709551616 = zw64 x := by
  unfold zw64 Int.bmod
  dsimp only
  split <;> omega
theorem zw16_bmod (x : Int) : Int.bmod x 65536 = zw16 x := by
  unfold zw16 Int.bmod
  dsimp only
  split <;> omega
theorem zw8_bmod (x : Int) : Int.bmod x 256 = zw8 x := by
  unfold zw8 Int.bmod
  dsimp only
  split <;> omega
theorem zsR_cons {n : Nat} {x : zV} {xs : List zV} {vs : List Value} (h : zsR w n (x :: xs) vs) : ∃ v vs', vs = v :: vs' ∧ zrv w n x v ∧ zsR w n xs vs' := by
  cases vs with
  | nil => exact h.elim
  | cons v vs => exact ⟨v, vs, rfl, h.1, h.2⟩
theorem zsR_nil {n : Nat} {vs : List Value} (h : zsR w n [] vs) : vs = [] := by
  cases vs with
  | nil => rfl
  | cons v vs => exact h.elim
theorem z_iconst (C : G → zCx w own cc nL ret D R p s m args meth c) {n x : Int} (hd : decode cc pc = .ok (.iconst n, 1)) (hx : (Int32.ofInt n).toInt = x) (hpc : pc + 1 = pc')
    (K : zSim G p l e R s m args below meth c w nL n0 Q pc' la (zI x :: st) μ t) : zSim G p l e R s m args below meth c w nL n0 Q pc la (st) μ t := by
  subst hpc
  refine zstep (fun hG H locs cells slots QQ ls sc hL hS kk => ?_) K
  exact lv_iconst (C hG).1 (C hG).2.1 hd rfl (kk _ _ hL ⟨⟨_, rfl, hx⟩, hS⟩)
theorem z_bipush (C : G → zCx w own cc nL ret D R p s m args meth c) {n x : Int} (hd : decode cc pc = .ok (.bipush n, 2)) (hx : (Int8.ofInt n).toInt32.toInt = x) (hpc : pc + 2 = pc')
    (K : zSim G p l e R s m args below meth c w nL n0 Q pc' la (zI x :: st) μ t) : zSim G p l e R s m args below meth c w nL n0 Q pc la (st) μ t := by
  subst hpc
  refine zstep (fun hG H locs cells slots QQ ls sc hL hS kk => ?_) K
  exact lv_bipush (C hG).1 (C hG).2.1 hd rfl (kk _ _ hL ⟨⟨_, rfl, hx⟩, hS⟩)
theorem z_sipush (C : G → zCx w own cc nL ret D R p s m args meth c) {n x : Int} (hd : decode cc pc = .ok (.sipush n, 3)) (hx : (Int16.ofInt n).toInt32.toInt = x) (hpc : pc + 3 = pc')
    (K : zSim G p l e R s m args below meth c w nL n0 Q pc' la (zI x :: st) μ t) : zSim G p l e R s m args below meth c w nL n0 Q pc la (st) μ t := by
  subst hpc
  refine zstep (fun hG H locs cells slots QQ ls sc hL hS kk => ?_) K
  exact lv_sipush (C hG).1 (C hG).2.1 hd rfl (kk _ _ hL ⟨⟨_, rfl, hx⟩, hS⟩)
theorem z_lconst (C : G → zCx w own cc nL ret D R p s m args meth c) {n : Fin 2} {x : Int} (hd : decode cc pc = .ok (.lconst n, 1)) (hx : (Int64.ofNat (n : Nat)).toInt = x) (hpc : pc + 1 = pc')
    (K : zSim G p l e R s m args below meth c w nL n0 Q pc' la (zL x :: st) μ t) : zSim G p l e R s m args below meth c w nL n0 Q pc la (st) μ t := by
  subst hpc
  refine zstep (fun hG H locs cells slots QQ ls sc hL hS kk => ?_) K
  exact lv_lconst (C hG).1 (C hG).2.1 hd rfl (kk _ _ hL ⟨⟨_, rfl, hx⟩, hS⟩)
theorem z_ldc (C : G → zCx w own cc nL ret D R p s m args meth c) {k : Nat} {v : Int32} {x : Int} (hd : decode cc pc = .ok (.ldc k, 2)) (hw : Cond.constant own k v ∈ zwt) (hx : v.toInt = x) (hpc : pc + 2 = pc')
    (K : zSim G p l e R s m args below meth c w nL n0 Q pc' la (zI x :: st) μ t) : zSim G p l e R s m args below meth c w nL n0 Q pc la (st) μ t := by
  subst hpc
  refine zstep (fun hG H locs cells slots QQ ls sc hL hS kk => ?_) K
  exact lv_ldc (C hG).1 (C hG).2.1 (C hG).2.2.2.1 ((C hG).2.2.2.2.1 _ hw) hd (kk _ _ hL ⟨⟨_, rfl, hx⟩, hS⟩)
theorem z_ldcw (C : G → zCx w own cc nL ret D R p s m args meth c) {k : Nat} {v : Int32} {x : Int} (hd : decode cc pc = .ok (.ldc_w k, 3)) (hw : Cond.constant own k v ∈ zwt) (hx : v.toInt = x) (hpc : pc + 3 = pc')
    (K : zSim G p l e R s m args below meth c w nL n0 Q pc' la (zI x :: st) μ t) : zSim G p l e R s m args below meth c w nL n0 Q pc la (st) μ t := by
  subst hpc
  refine zstep (fun hG H locs cells slots QQ ls sc hL hS kk => ?_) K
  exact lv_ldcw (C hG).1 (C hG).2.1 (C hG).2.2.2.1 ((C hG).2.2.2.2.1 _ hw) hd (kk _ _ hL ⟨⟨_, rfl, hx⟩, hS⟩)
theorem z_ldc2 (C : G → zCx w own cc nL ret D R p s m args meth c) {k : Nat} {v : Int64} {x : Int} (hd : decode cc pc = .ok (.ldc2_w k, 3)) (hw : Cond.constantLong own k v ∈ zwt) (hx : v.toInt = x) (hpc : pc + 3 = pc')
    (K : zSim G p l e R s m args below meth c w nL n0 Q pc' la (zL x :: st) μ t) : zSim G p l e R s m args below meth c w nL n0 Q pc la (st) μ t := by
  subst hpc
  refine zstep (fun hG H locs cells slots QQ ls sc hL hS kk => ?_) K
  exact lv_ldc2 (C hG).1 (C hG).2.1 (C hG).2.2.2.1 ((C hG).2.2.2.2.1 _ hw) hd (kk _ _ hL ⟨⟨_, rfl, hx⟩, hS⟩)
theorem z_null (C : G → zCx w own cc nL ret D R p s m args meth c) (hd : decode cc pc = .ok (.aconst_null, 1)) (hpc : pc + 1 = pc')
    (K : zSim G p l e R s m args below meth c w nL n0 Q pc' la (zR (-1) :: st) μ t) : zSim G p l e R s m args below meth c w nL n0 Q pc la (st) μ t := by
  subst hpc
  refine zstep (fun hG H locs cells slots QQ ls sc hL hS kk => ?_) K
  exact lv_null (C hG).1 (C hG).2.1 hd (kk _ _ hL ⟨Or.inl ⟨rfl, rfl⟩, hS⟩)
theorem z_iload_n (C : G → zCx w own cc nL ret D R p s m args meth c) {k : Fin 4} {i : Nat} {x : Int} (hd : decode cc pc = .ok (.iload_n k, 1)) (hi : (k : Nat) = i) (hg : zget i la = some (zI x)) (hpc : pc + 1 = pc')
    (K : zSim G p l e R s m args below meth c w nL n0 Q pc' la (zI x :: st) μ t) : zSim G p l e R s m args below meth c w nL n0 Q pc la (st) μ t := by
  subst hpc
  refine zstep (fun hG H locs cells slots QQ ls sc hL hS kk => ?_) K
  obtain ⟨_, h1, v, rfl, hv⟩ := zlR_get hL hg
  exact lv_iload_n (C hG).1 (C hG).2.1 hd hi h1 (kk _ _ hL ⟨⟨_, rfl, hv⟩, hS⟩)
theorem z_iload (C : G → zCx w own cc nL ret D R p s m args meth c) {i : Nat} {x : Int} (hd : decode cc pc = .ok (.iload i, 2)) (hg : zget i la = some (zI x)) (hpc : pc + 2 = pc')
    (K : zSim G p l e R s m args below meth c w nL n0 Q pc' la (zI x :: st) μ t) : zSim G p l e R s m args below meth c w nL n0 Q pc la (st) μ t := by
  subst hpc
  refine zstep (fun hG H locs cells slots QQ ls sc hL hS kk => ?_) K
  obtain ⟨_, h1, v, rfl, hv⟩ := zlR_get hL hg
  exact lv_iload (C hG).1 (C hG).2.1 hd h1 (kk _ _ hL ⟨⟨_, rfl, hv⟩, hS⟩)
theorem z_lload_n (C : G → zCx w own cc nL ret D R p s m args meth c) {k : Fin 4} {i : Nat} {x : Int} (hd : decode cc pc = .ok (.lload_n k, 1)) (hi : (k : Nat) = i) (hg : zget i la = some (zL x)) (hpc : pc + 1 = pc')
    (K : zSim G p l e R s m args below meth c w nL n0 Q pc' la (zL x :: st) μ t) : zSim G p l e R s m args below meth c w nL n0 Q pc la (st) μ t := by
  subst hpc
  refine zstep (fun hG H locs cells slots QQ ls sc hL hS kk => ?_) K
  obtain ⟨_, h1, v, rfl, hv⟩ := zlR_get hL hg
  exact lv_lload_n (C hG).1 (C hG).2.1 hd hi h1 (kk _ _ hL ⟨⟨_, rfl, hv⟩, hS⟩)
theorem z_lload (C : G → zCx w own cc nL ret D R p s m args meth c) {i : Nat} {x : Int} (hd : decode cc pc = .ok (.lload i, 2)) (hg : zget i la = some (zL x)) (hpc : pc + 2 = pc')
    (K : zSim G p l e R s m args below meth c w nL n0 Q pc' la (zL x :: st) μ t) : zSim G p l e R s m args below meth c w nL n0 Q pc la (st) μ t := by
  subst hpc
  refine zstep (fun hG H locs cells slots QQ ls sc hL hS kk => ?_) K
  obtain ⟨_, h1, v, rfl, hv⟩ := zlR_get hL hg
  exact lv_lload (C hG).1 (C hG).2.1 hd h1 (kk _ _ hL ⟨⟨_, rfl, hv⟩, hS⟩)
theorem z_aload_n (C : G → zCx w own cc nL ret D R p s m args meth c) {k : Fin 4} {i : Nat} {x : Int} (hd : decode cc pc = .ok (.aload_n k, 1)) (hi : (k : Nat) = i) (hg : zget i la = some (zR x)) (hpc : pc + 1 = pc')
    (K : zSim G p l e R s m args below meth c w nL n0 Q pc' la (zR x :: st) μ t) : zSim G p l e R s m args below meth c w nL n0 Q pc la (st) μ t := by
  subst hpc
  refine zstep (fun hG H locs cells slots QQ ls sc hL hS kk => ?_) K
  obtain ⟨_, h1, h2⟩ := zlR_get hL hg
  rcases h2 with ⟨rfl, rfl⟩ | ⟨q, rfl, hq, rfl⟩
  · exact lv_aload_nN (C hG).1 (C hG).2.1 hd hi h1 (kk _ _ hL ⟨Or.inl ⟨rfl, rfl⟩, hS⟩)
  · exact lv_aload_n (C hG).1 (C hG).2.1 hd hi h1 (kk _ _ hL ⟨Or.inr ⟨q, rfl, hq, rfl⟩, hS⟩)
theorem z_aload (C : G → zCx w own cc nL ret D R p s m args meth c) {i : Nat} {x : Int} (hd : decode cc pc = .ok (.aload i, 2)) (hg : zget i la = some (zR x)) (hpc : pc + 2 = pc')
    (K : zSim G p l e R s m args below meth c w nL n0 Q pc' la (zR x :: st) μ t) : zSim G p l e R s m args below meth c w nL n0 Q pc la (st) μ t := by
  subst hpc
  refine zstep (fun hG H locs cells slots QQ ls sc hL hS kk => ?_) K
  obtain ⟨_, h1, h2⟩ := zlR_get hL hg
  rcases h2 with ⟨rfl, rfl⟩ | ⟨q, rfl, hq, rfl⟩
  · exact lv_aloadN (C hG).1 (C hG).2.1 hd h1 (kk _ _ hL ⟨Or.inl ⟨rfl, rfl⟩, hS⟩)
  · exact lv_aload (C hG).1 (C hG).2.1 hd h1 (kk _ _ hL ⟨Or.inr ⟨q, rfl, hq, rfl⟩, hS⟩)
theorem z_istore_n (C : G → zCx w own cc nL ret D R p s m args meth c) {k : Fin 4} {i : Nat} {x : Int} {la' : List (Nat × zV)} (hd : decode cc pc = .ok (.istore_n k, 1)) (hi : (k : Nat) = i) (hn : i < nL) (hla : zst1 i (zI x) la = la') (hpc : pc + 1 = pc')
    (K : zSim G p l e R s m args below meth c w nL n0 Q pc' la' (st) μ t) : zSim G p l e R s m args below meth c w nL n0 Q pc la (zI x :: st) μ t := by
  subst hpc
  subst hla
  refine zstep (fun hG H locs cells slots QQ ls sc hL hS kk => ?_) K
  obtain ⟨_, sc, rfl, ⟨v, rfl, hv⟩, hT⟩ := zsR_cons hS
  obtain ⟨lc, g1, g2⟩ := hL
  exact lv_istore_n (C hG).1 (C hG).2.1 hd hi g1 hn rfl (fun ls1 g3 => kk ls1 _ ⟨_, g3, zlC_st1 g2 ⟨v, rfl, hv⟩⟩ hT)
theorem z_lstore_n (C : G → zCx w own cc nL ret D R p s m args meth c) {k : Fin 4} {i : Nat} {x : Int} {la' : List (Nat × zV)} (hd : decode cc pc = .ok (.lstore_n k, 1)) (hi : (k : Nat) = i) (hn : i + 1 < nL) (hla : zst2 i (zL x) la = la') (hpc : pc + 1 = pc')
    (K : zSim G p l e R s m args below meth c w nL n0 Q pc' la' (st) μ t) : zSim G p l e R s m args below meth c w nL n0 Q pc la (zL x :: st) μ t := by
  subst hpc
  subst hla
  refine zstep (fun hG H locs cells slots QQ ls sc hL hS kk => ?_) K
  obtain ⟨_, sc, rfl, ⟨v, rfl, hv⟩, hT⟩ := zsR_cons hS
  obtain ⟨lc, g1, g2⟩ := hL
  exact lv_lstore_n (C hG).1 (C hG).2.1 hd hi g1 hn rfl (fun ls1 g3 => kk ls1 _ ⟨_, g3, zlC_st2 g2 ⟨v, rfl, hv⟩⟩ hT)
theorem z_astore_n (C : G → zCx w own cc nL ret D R p s m args meth c) {k : Fin 4} {i : Nat} {x : Int} {la' : List (Nat × zV)} (hd : decode cc pc = .ok (.astore_n k, 1)) (hi : (k : Nat) = i) (hn : i < nL) (hla : zst1 i (zR x) la = la') (hpc : pc + 1 = pc')
    (K : zSim G p l e R s m args below meth c w nL n0 Q pc' la' (st) μ t) : zSim G p l e R s m args below meth c w nL n0 Q pc la (zR x :: st) μ t := by
  subst hpc
  subst hla
  refine zstep (fun hG H locs cells slots QQ ls sc hL hS kk => ?_) K
  obtain ⟨_, sc, rfl, h2, hT⟩ := zsR_cons hS
  obtain ⟨lc, g1, g2⟩ := hL
  rcases h2 with ⟨rfl, rfl⟩ | ⟨q, rfl, hq, rfl⟩
  · exact lv_astore_nN (C hG).1 (C hG).2.1 hd hi g1 hn rfl (fun ls1 g3 => kk ls1 _ ⟨_, g3, zlC_st1 g2 (Or.inl ⟨rfl, rfl⟩)⟩ hT)
  · exact lv_astore_n (C hG).1 (C hG).2.1 hd hi g1 hn rfl (fun ls1 g3 => kk ls1 _ ⟨_, g3, zlC_st1 g2 (Or.inr ⟨q, rfl, hq, rfl⟩)⟩ hT)
theorem z_istore (C : G → zCx w own cc nL ret D R p s m args meth c) {i : Nat} {x : Int} {la' : List (Nat × zV)} (hd : decode cc pc = .ok (.istore i, 2)) (hn : i < nL) (hla : zst1 i (zI x) la = la') (hpc : pc + 2 = pc')
    (K : zSim G p l e R s m args below meth c w nL n0 Q pc' la' (st) μ t) : zSim G p l e R s m args below meth c w nL n0 Q pc la (zI x :: st) μ t := by
  subst hpc
  subst hla
  refine zstep (fun hG H locs cells slots QQ ls sc hL hS kk => ?_) K
  obtain ⟨_, sc, rfl, ⟨v, rfl, hv⟩, hT⟩ := zsR_cons hS
  obtain ⟨lc, g1, g2⟩ := hL
  exact lv_istore (C hG).1 (C hG).2.1 hd g1 hn rfl (fun ls1 g3 => kk ls1 _ ⟨_, g3, zlC_st1 g2 ⟨v, rfl, hv⟩⟩ hT)
theorem z_lstore (C : G → zCx w own cc nL ret D R p s m args meth c) {i : Nat} {x : Int} {la' : List (Nat × zV)} (hd : decode cc pc = .ok (.lstore i, 2)) (hn : i + 1 < nL) (hla : zst2 i (zL x) la = la') (hpc : pc + 2 = pc')
    (K : zSim G p l e R s m args below meth c w nL n0 Q pc' la' (st) μ t) : zSim G p l e R s m args below meth c w nL n0 Q pc la (zL x :: st) μ t := by
  subst hpc
  subst hla
  refine zstep (fun hG H locs cells slots QQ ls sc hL hS kk => ?_) K
  obtain ⟨_, sc, rfl, ⟨v, rfl, hv⟩, hT⟩ := zsR_cons hS
  obtain ⟨lc, g1, g2⟩ := hL
  exact lv_lstore (C hG).1 (C hG).2.1 hd g1 hn rfl (fun ls1 g3 => kk ls1 _ ⟨_, g3, zlC_st2 g2 ⟨v, rfl, hv⟩⟩ hT)
theorem z_astore (C : G → zCx w own cc nL ret D R p s m args meth c) {i : Nat} {x : Int} {la' : List (Nat × zV)} (hd : decode cc pc = .ok (.astore i, 2)) (hn : i < nL) (hla : zst1 i (zR x) la = la') (hpc : pc + 2 = pc')
    (K : zSim G p l e R s m args below meth c w nL n0 Q pc' la' (st) μ t) : zSim G p l e R s m args below meth c w nL n0 Q pc la (zR x :: st) μ t := by
  subst hpc
  subst hla
  refine zstep (fun hG H locs cells slots QQ ls sc hL hS kk => ?_) K
  obtain ⟨_, sc, rfl, h2, hT⟩ := zsR_cons hS
  obtain ⟨lc, g1, g2⟩ := hL
  rcases h2 with ⟨rfl, rfl⟩ | ⟨q, rfl, hq, rfl⟩
  · exact lv_astoreN (C hG).1 (C hG).2.1 hd g1 hn rfl (fun ls1 g3 => kk ls1 _ ⟨_, g3, zlC_st1 g2 (Or.inl ⟨rfl, rfl⟩)⟩ hT)
  · exact lv_astore (C hG).1 (C hG).2.1 hd g1 hn rfl (fun ls1 g3 => kk ls1 _ ⟨_, g3, zlC_st1 g2 (Or.inr ⟨q, rfl, hq, rfl⟩)⟩ hT)
theorem zlC_place {n i : Nat} {x : zV} : ∀ {la : List (Nat × zV)} {lc : List (Nat × Value)}, zlC w n la lc → zget i la = some x → ∃ (k : Nat) (v : Value), lc[k]? = some (i, v) ∧ zrv w n x v
  | [], [], _, h => by cases h
  | [], _ :: _, h, _ => h.elim
  | _ :: _, [], h, _ => h.elim
  | q :: la, r :: lc, h, hg => by
    unfold zget at hg
    split at hg
    · rename_i e
      cases hg
      refine ⟨0, r.2, ?_, h.1.2⟩
      rw [← e, h.1.1]
      rfl
    · obtain ⟨k, v, h1, h2⟩ := zlC_place h.2 hg
      exact ⟨k + 1, v, h1, h2⟩
theorem zofw32 (i : Int32) (n : Int) : (i + Int32.ofInt n).toInt = zw32 (i.toInt + n) := by
  rw [Int32.toInt_add, Int32.toInt_ofInt]
  show Int.bmod (i.toInt + Int.bmod n 4294967296) 4294967296 = _
  rw [Int.add_bmod_bmod, zw32_bmod]
theorem z_iinc (C : G → zCx w own cc nL ret D R p s m args meth c) {i : Nat} {n x : Int} {la' : List (Nat × zV)} (hd : decode cc pc = .ok (.iinc i n, 3)) (hg : zget i la = some (zI x)) (hn : i < nL) (hla : zst1 i (zI (zw32 (x + n))) la = la') (hpc : pc + 3 = pc')
    (K : zSim G p l e R s m args below meth c w nL n0 Q pc' la' (st) μ t) : zSim G p l e R s m args below meth c w nL n0 Q pc la (st) μ t := by
  subst hpc
  subst hla
  refine zstep (fun hG H locs cells slots QQ ls sc hL hS kk => ?_) K
  obtain ⟨lc, g1, g2⟩ := hL
  obtain ⟨k, _, g3, v, rfl, hv⟩ := zlC_place g2 hg
  exact lv_iinc (C hG).1 (C hG).2.1 hd g1 g3 rfl hn rfl (fun ls1 g4 => kk ls1 _ ⟨_, g4, zlC_st1 g2 ⟨_, rfl, by rw [zofw32, hv]⟩⟩ hS)
theorem z_iadd (C : G → zCx w own cc nL ret D R p s m args meth c) {x y : Int} (hd : decode cc pc = .ok (.iadd, 1)) (hpc : pc + 1 = pc')
    (K : zSim G p l e R s m args below meth c w nL n0 Q pc' la (zI (zw32 (x + y)) :: st) μ t) : zSim G p l e R s m args below meth c w nL n0 Q pc la (zI y :: zI x :: st) μ t := by
  subst hpc
  refine zstep (fun hG H locs cells slots QQ ls sc hL hS kk => ?_) K
  obtain ⟨_, sc, rfl, ⟨j, rfl, rfl⟩, hU⟩ := zsR_cons hS
  obtain ⟨_, sc, rfl, ⟨i, rfl, rfl⟩, hT⟩ := zsR_cons hU
  exact lv_iadd (C hG).1 (C hG).2.1 hd (kk _ _ hL ⟨⟨_, rfl, by rw [Int32.toInt_add, ← zw32_bmod]⟩, hT⟩)
theorem z_isub (C : G → zCx w own cc nL ret D R p s m args meth c) {x y : Int} (hd : decode cc pc = .ok (.isub, 1)) (hpc : pc + 1 = pc')
    (K : zSim G p l e R s m args below meth c w nL n0 Q pc' la (zI (zw32 (x - y)) :: st) μ t) : zSim G p l e R s m args below meth c w nL n0 Q pc la (zI y :: zI x :: st) μ t := by
  subst hpc
  refine zstep (fun hG H locs cells slots QQ ls sc hL hS kk => ?_) K
  obtain ⟨_, sc, rfl, ⟨j, rfl, rfl⟩, hU⟩ := zsR_cons hS
  obtain ⟨_, sc, rfl, ⟨i, rfl, rfl⟩, hT⟩ := zsR_cons hU
  exact lv_isub (C hG).1 (C hG).2.1 hd (kk _ _ hL ⟨⟨_, rfl, by rw [Int32.toInt_sub, ← zw32_bmod]⟩, hT⟩)
theorem z_imul (C : G → zCx w own cc nL ret D R p s m args meth c) {x y : Int} (hd : decode cc pc = .ok (.imul, 1)) (hpc : pc + 1 = pc')
    (K : zSim G p l e R s m args below meth c w nL n0 Q pc' la (zI (zw32 (x * y)) :: st) μ t) : zSim G p l e R s m args below meth c w nL n0 Q pc la (zI y :: zI x :: st) μ t := by
  subst hpc
  refine zstep (fun hG H locs cells slots QQ ls sc hL hS kk => ?_) K
  obtain ⟨_, sc, rfl, ⟨j, rfl, rfl⟩, hU⟩ := zsR_cons hS
  obtain ⟨_, sc, rfl, ⟨i, rfl, rfl⟩, hT⟩ := zsR_cons hU
  exact lv_imul (C hG).1 (C hG).2.1 hd (kk _ _ hL ⟨⟨_, rfl, by rw [Int32.toInt_mul, ← zw32_bmod]⟩, hT⟩)
theorem z_iand (C : G → zCx w own cc nL ret D R p s m args meth c) {x y : Int} (hd : decode cc pc = .ok (.iand, 1)) (hpc : pc + 1 = pc')
    (K : zSim G p l e R s m args below meth c w nL n0 Q pc' la (zI (zand x y) :: st) μ t) : zSim G p l e R s m args below meth c w nL n0 Q pc la (zI y :: zI x :: st) μ t := by
  subst hpc
  refine zstep (fun hG H locs cells slots QQ ls sc hL hS kk => ?_) K
  obtain ⟨_, sc, rfl, ⟨j, rfl, rfl⟩, hU⟩ := zsR_cons hS
  obtain ⟨_, sc, rfl, ⟨i, rfl, rfl⟩, hT⟩ := zsR_cons hU
  exact lv_iand (C hG).1 (C hG).2.1 hd (kk _ _ hL ⟨⟨_, rfl, by simp only [zand, Int32.ofInt_toInt]⟩, hT⟩)
theorem z_ior (C : G → zCx w own cc nL ret D R p s m args meth c) {x y : Int} (hd : decode cc pc = .ok (.ior, 1)) (hpc : pc + 1 = pc')
    (K : zSim G p l e R s m args below meth c w nL n0 Q pc' la (zI (zor x y) :: st) μ t) : zSim G p l e R s m args below meth c w nL n0 Q pc la (zI y :: zI x :: st) μ t := by
  subst hpc
  refine zstep (fun hG H locs cells slots QQ ls sc hL hS kk => ?_) K
  obtain ⟨_, sc, rfl, ⟨j, rfl, rfl⟩, hU⟩ := zsR_cons hS
  obtain ⟨_, sc, rfl, ⟨i, rfl, rfl⟩, hT⟩ := zsR_cons hU
  exact lv_ior (C hG).1 (C hG).2.1 hd (kk _ _ hL ⟨⟨_, rfl, by simp only [zor, Int32.ofInt_toInt]⟩, hT⟩)
theorem z_ixor (C : G → zCx w own cc nL ret D R p s m args meth c) {x y : Int} (hd : decode cc pc = .ok (.ixor, 1)) (hpc : pc + 1 = pc')
    (K : zSim G p l e R s m args below meth c w nL n0 Q pc' la (zI (zxor x y) :: st) μ t) : zSim G p l e R s m args below meth c w nL n0 Q pc la (zI y :: zI x :: st) μ t := by
  subst hpc
  refine zstep (fun hG H locs cells slots QQ ls sc hL hS kk => ?_) K
  obtain ⟨_, sc, rfl, ⟨j, rfl, rfl⟩, hU⟩ := zsR_cons hS
  obtain ⟨_, sc, rfl, ⟨i, rfl, rfl⟩, hT⟩ := zsR_cons hU
  exact lv_ixor (C hG).1 (C hG).2.1 hd (kk _ _ hL ⟨⟨_, rfl, by simp only [zxor, Int32.ofInt_toInt]⟩, hT⟩)
theorem z_ishl (C : G → zCx w own cc nL ret D R p s m args meth c) {x y : Int} (hd : decode cc pc = .ok (.ishl, 1)) (hpc : pc + 1 = pc')
    (K : zSim G p l e R s m args below meth c w nL n0 Q pc' la (zI (zshl x y) :: st) μ t) : zSim G p l e R s m args below meth c w nL n0 Q pc la (zI y :: zI x :: st) μ t := by
  subst hpc
  refine zstep (fun hG H locs cells slots QQ ls sc hL hS kk => ?_) K
  obtain ⟨_, sc, rfl, ⟨j, rfl, rfl⟩, hU⟩ := zsR_cons hS
  obtain ⟨_, sc, rfl, ⟨i, rfl, rfl⟩, hT⟩ := zsR_cons hU
  exact lv_ishl (C hG).1 (C hG).2.1 hd (kk _ _ hL ⟨⟨_, rfl, by simp only [zshl, Int32.ofInt_toInt]⟩, hT⟩)
theorem z_ishr (C : G → zCx w own cc nL ret D R p s m args meth c) {x y : Int} (hd : decode cc pc = .ok (.ishr, 1)) (hpc : pc + 1 = pc')
    (K : zSim G p l e R s m args below meth c w nL n0 Q pc' la (zI (zshr x y) :: st) μ t) : zSim G p l e R s m args below meth c w nL n0 Q pc la (zI y :: zI x :: st) μ t := by
  subst hpc
  refine zstep (fun hG H locs cells slots QQ ls sc hL hS kk => ?_) K
  obtain ⟨_, sc, rfl, ⟨j, rfl, rfl⟩, hU⟩ := zsR_cons hS
  obtain ⟨_, sc, rfl, ⟨i, rfl, rfl⟩, hT⟩ := zsR_cons hU
  exact lv_ishr (C hG).1 (C hG).2.1 hd (kk _ _ hL ⟨⟨_, rfl, by simp only [zshr, Int32.ofInt_toInt]⟩, hT⟩)
theorem z_iushr (C : G → zCx w own cc nL ret D R p s m args meth c) {x y : Int} (hd : decode cc pc = .ok (.iushr, 1)) (hpc : pc + 1 = pc')
    (K : zSim G p l e R s m args below meth c w nL n0 Q pc' la (zI (zushr x y) :: st) μ t) : zSim G p l e R s m args below meth c w nL n0 Q pc la (zI y :: zI x :: st) μ t := by
  subst hpc
  refine zstep (fun hG H locs cells slots QQ ls sc hL hS kk => ?_) K
  obtain ⟨_, sc, rfl, ⟨j, rfl, rfl⟩, hU⟩ := zsR_cons hS
  obtain ⟨_, sc, rfl, ⟨i, rfl, rfl⟩, hT⟩ := zsR_cons hU
  exact lv_iushr (C hG).1 (C hG).2.1 hd rfl (kk _ _ hL ⟨⟨_, rfl, by simp only [zushr, Int32.ofInt_toInt]⟩, hT⟩)
theorem z_ineg (C : G → zCx w own cc nL ret D R p s m args meth c) {x : Int} (hd : decode cc pc = .ok (.ineg, 1)) (hpc : pc + 1 = pc')
    (K : zSim G p l e R s m args below meth c w nL n0 Q pc' la (zI (zw32 (-x)) :: st) μ t) : zSim G p l e R s m args below meth c w nL n0 Q pc la (zI x :: st) μ t := by
  subst hpc
  refine zstep (fun hG H locs cells slots QQ ls sc hL hS kk => ?_) K
  obtain ⟨_, sc, rfl, ⟨i, rfl, rfl⟩, hT⟩ := zsR_cons hS
  exact lv_ineg (C hG).1 (C hG).2.1 hd (kk _ _ hL ⟨⟨_, rfl, by rw [Int32.toInt_neg, ← zw32_bmod]⟩, hT⟩)
theorem z_ladd (C : G → zCx w own cc nL ret D R p s m args meth c) {x y : Int} (hd : decode cc pc = .ok (.ladd, 1)) (hpc : pc + 1 = pc')
    (K : zSim G p l e R s m args below meth c w nL n0 Q pc' la (zL (zw64 (x + y)) :: st) μ t) : zSim G p l e R s m args below meth c w nL n0 Q pc la (zL y :: zL x :: st) μ t := by
  subst hpc
  refine zstep (fun hG H locs cells slots QQ ls sc hL hS kk => ?_) K
  obtain ⟨_, sc, rfl, ⟨j, rfl, rfl⟩, hU⟩ := zsR_cons hS
  obtain ⟨_, sc, rfl, ⟨i, rfl, rfl⟩, hT⟩ := zsR_cons hU
  exact lv_ladd (C hG).1 (C hG).2.1 hd (kk _ _ hL ⟨⟨_, rfl, by rw [Int64.toInt_add, ← zw64_bmod]⟩, hT⟩)
theorem z_lsub (C : G → zCx w own cc nL ret D R p s m args meth c) {x y : Int} (hd : decode cc pc = .ok (.lsub, 1)) (hpc : pc + 1 = pc')
    (K : zSim G p l e R s m args below meth c w nL n0 Q pc' la (zL (zw64 (x - y)) :: st) μ t) : zSim G p l e R s m args below meth c w nL n0 Q pc la (zL y :: zL x :: st) μ t := by
  subst hpc
  refine zstep (fun hG H locs cells slots QQ ls sc hL hS kk => ?_) K
  obtain ⟨_, sc, rfl, ⟨j, rfl, rfl⟩, hU⟩ := zsR_cons hS
  obtain ⟨_, sc, rfl, ⟨i, rfl, rfl⟩, hT⟩ := zsR_cons hU
  exact lv_lsub (C hG).1 (C hG).2.1 hd (kk _ _ hL ⟨⟨_, rfl, by rw [Int64.toInt_sub, ← zw64_bmod]⟩, hT⟩)
theorem z_lmul (C : G → zCx w own cc nL ret D R p s m args meth c) {x y : Int} (hd : decode cc pc = .ok (.lmul, 1)) (hpc : pc + 1 = pc')
    (K : zSim G p l e R s m args below meth c w nL n0 Q pc' la (zL (zw64 (x * y)) :: st) μ t) : zSim G p l e R s m args below meth c w nL n0 Q pc la (zL y :: zL x :: st) μ t := by
  subst hpc
  refine zstep (fun hG H locs cells slots QQ ls sc hL hS kk => ?_) K
  obtain ⟨_, sc, rfl, ⟨j, rfl, rfl⟩, hU⟩ := zsR_cons hS
  obtain ⟨_, sc, rfl, ⟨i, rfl, rfl⟩, hT⟩ := zsR_cons hU
  exact lv_lmul (C hG).1 (C hG).2.1 hd (kk _ _ hL ⟨⟨_, rfl, by rw [Int64.toInt_mul, ← zw64_bmod]⟩, hT⟩)
theorem z_land (C : G → zCx w own cc nL ret D R p s m args meth c) {x y : Int} (hd : decode cc pc = .ok (.land, 1)) (hpc : pc + 1 = pc')
    (K : zSim G p l e R s m args below meth c w nL n0 Q pc' la (zL (zland x y) :: st) μ t) : zSim G p l e R s m args below meth c w nL n0 Q pc la (zL y :: zL x :: st) μ t := by
  subst hpc
  refine zstep (fun hG H locs cells slots QQ ls sc hL hS kk => ?_) K
  obtain ⟨_, sc, rfl, ⟨j, rfl, rfl⟩, hU⟩ := zsR_cons hS
  obtain ⟨_, sc, rfl, ⟨i, rfl, rfl⟩, hT⟩ := zsR_cons hU
  exact lv_land (C hG).1 (C hG).2.1 hd (kk _ _ hL ⟨⟨_, rfl, by simp only [zland, Int64.ofInt_toInt]⟩, hT⟩)
theorem z_lor (C : G → zCx w own cc nL ret D R p s m args meth c) {x y : Int} (hd : decode cc pc = .ok (.lor, 1)) (hpc : pc + 1 = pc')
    (K : zSim G p l e R s m args below meth c w nL n0 Q pc' la (zL (zlor x y) :: st) μ t) : zSim G p l e R s m args below meth c w nL n0 Q pc la (zL y :: zL x :: st) μ t := by
  subst hpc
  refine zstep (fun hG H locs cells slots QQ ls sc hL hS kk => ?_) K
  obtain ⟨_, sc, rfl, ⟨j, rfl, rfl⟩, hU⟩ := zsR_cons hS
  obtain ⟨_, sc, rfl, ⟨i, rfl, rfl⟩, hT⟩ := zsR_cons hU
  exact lv_lor (C hG).1 (C hG).2.1 hd (kk _ _ hL ⟨⟨_, rfl, by simp only [zlor, Int64.ofInt_toInt]⟩, hT⟩)
theorem z_lshl (C : G → zCx w own cc nL ret D R p s m args meth c) {x y : Int} (hd : decode cc pc = .ok (.lshl, 1)) (hpc : pc + 1 = pc')
    (K : zSim G p l e R s m args below meth c w nL n0 Q pc' la (zL (zlsh x y) :: st) μ t) : zSim G p l e R s m args below meth c w nL n0 Q pc la (zI y :: zL x :: st) μ t := by
  subst hpc
  refine zstep (fun hG H locs cells slots QQ ls sc hL hS kk => ?_) K
  obtain ⟨_, sc, rfl, ⟨j, rfl, rfl⟩, hU⟩ := zsR_cons hS
  obtain ⟨_, sc, rfl, ⟨i, rfl, rfl⟩, hT⟩ := zsR_cons hU
  exact lv_lshl (C hG).1 (C hG).2.1 hd rfl (kk _ _ hL ⟨⟨_, rfl, by simp only [zlsh, Int32.ofInt_toInt, Int64.ofInt_toInt]⟩, hT⟩)
theorem z_i2l (C : G → zCx w own cc nL ret D R p s m args meth c) {x : Int} (hd : decode cc pc = .ok (.i2l, 1)) (hpc : pc + 1 = pc')
    (K : zSim G p l e R s m args below meth c w nL n0 Q pc' la (zL x :: st) μ t) : zSim G p l e R s m args below meth c w nL n0 Q pc la (zI x :: st) μ t := by
  subst hpc
  refine zstep (fun hG H locs cells slots QQ ls sc hL hS kk => ?_) K
  obtain ⟨_, sc, rfl, ⟨i, rfl, rfl⟩, hT⟩ := zsR_cons hS
  exact lv_i2l (C hG).1 (C hG).2.1 hd rfl (kk _ _ hL ⟨⟨_, rfl, Int32.toInt_toInt64 _⟩, hT⟩)
theorem z_l2i (C : G → zCx w own cc nL ret D R p s m args meth c) {x : Int} (hd : decode cc pc = .ok (.l2i, 1)) (hpc : pc + 1 = pc')
    (K : zSim G p l e R s m args below meth c w nL n0 Q pc' la (zI (zw32 x) :: st) μ t) : zSim G p l e R s m args below meth c w nL n0 Q pc la (zL x :: st) μ t := by
  subst hpc
  refine zstep (fun hG H locs cells slots QQ ls sc hL hS kk => ?_) K
  obtain ⟨_, sc, rfl, ⟨i, rfl, rfl⟩, hT⟩ := zsR_cons hS
  exact lv_l2i (C hG).1 (C hG).2.1 hd rfl (kk _ _ hL ⟨⟨_, rfl, by rw [Int64.toInt_toInt32, ← zw32_bmod]⟩, hT⟩)
theorem z_i2b (C : G → zCx w own cc nL ret D R p s m args meth c) {x : Int} (hd : decode cc pc = .ok (.i2b, 1)) (hpc : pc + 1 = pc')
    (K : zSim G p l e R s m args below meth c w nL n0 Q pc' la (zI (zw8 x) :: st) μ t) : zSim G p l e R s m args below meth c w nL n0 Q pc la (zI x :: st) μ t := by
  subst hpc
  refine zstep (fun hG H locs cells slots QQ ls sc hL hS kk => ?_) K
  obtain ⟨_, sc, rfl, ⟨i, rfl, rfl⟩, hT⟩ := zsR_cons hS
  exact lv_i2b (C hG).1 (C hG).2.1 hd rfl (kk _ _ hL ⟨⟨_, rfl, by rw [Int8.toInt_toInt32, Int32.toInt_toInt8, ← zw8_bmod]⟩, hT⟩)
theorem z_i2s (C : G → zCx w own cc nL ret D R p s m args meth c) {x : Int} (hd : decode cc pc = .ok (.i2s, 1)) (hpc : pc + 1 = pc')
    (K : zSim G p l e R s m args below meth c w nL n0 Q pc' la (zI (zw16 x) :: st) μ t) : zSim G p l e R s m args below meth c w nL n0 Q pc la (zI x :: st) μ t := by
  subst hpc
  refine zstep (fun hG H locs cells slots QQ ls sc hL hS kk => ?_) K
  obtain ⟨_, sc, rfl, ⟨i, rfl, rfl⟩, hT⟩ := zsR_cons hS
  exact lv_i2s (C hG).1 (C hG).2.1 hd rfl (kk _ _ hL ⟨⟨_, rfl, by rw [Int16.toInt_toInt32, Int32.toInt_toInt16, ← zw16_bmod]⟩, hT⟩)
theorem zlg_cmp (x y : Int64) : (lg_cmp x y).toInt = zcmp x.toInt y.toInt := by
  unfold lg_cmp zcmp
  simp only [gt_iff_lt, Int64.lt_iff_toInt_lt, ← Int64.toInt_inj]
  repeat' split
  all_goals first | rfl | omega
theorem z_lcmp (C : G → zCx w own cc nL ret D R p s m args meth c) {x y : Int} (hd : decode cc pc = .ok (.lcmp, 1)) (hpc : pc + 1 = pc')
    (K : zSim G p l e R s m args below meth c w nL n0 Q pc' la (zI (zcmp x y) :: st) μ t) : zSim G p l e R s m args below meth c w nL n0 Q pc la (zL y :: zL x :: st) μ t := by
  subst hpc
  refine zstep (fun hG H locs cells slots QQ ls sc hL hS kk => ?_) K
  obtain ⟨_, sc, rfl, ⟨j, rfl, rfl⟩, hU⟩ := zsR_cons hS
  obtain ⟨_, sc, rfl, ⟨i, rfl, rfl⟩, hT⟩ := zsR_cons hU
  exact W.lcmp (C hG).1 (C hG).2.1 hd (kk _ _ hL ⟨⟨_, rfl, zlg_cmp _ _⟩, hT⟩)
theorem z_dup (C : G → zCx w own cc nL ret D R p s m args meth c) {x : zV} (hd : decode cc pc = .ok (.dup, 1)) (hx : zcat x = 1) (hpc : pc + 1 = pc')
    (K : zSim G p l e R s m args below meth c w nL n0 Q pc' la (x :: x :: st) μ t) : zSim G p l e R s m args below meth c w nL n0 Q pc la (x :: st) μ t := by
  subst hpc
  refine zstep (fun hG H locs cells slots QQ ls sc hL hS kk => ?_) K
  obtain ⟨v1, sc, rfl, h1, hT⟩ := zsR_cons hS
  exact lv_dup (C hG).1 (C hG).2.1 hd (by rw [zrv_cat h1, hx]) (kk _ _ hL ⟨h1, h1, hT⟩)
theorem z_pop (C : G → zCx w own cc nL ret D R p s m args meth c) {x : zV} (hd : decode cc pc = .ok (.pop, 1)) (hx : zcat x = 1) (hpc : pc + 1 = pc')
    (K : zSim G p l e R s m args below meth c w nL n0 Q pc' la (st) μ t) : zSim G p l e R s m args below meth c w nL n0 Q pc la (x :: st) μ t := by
  subst hpc
  refine zstep (fun hG H locs cells slots QQ ls sc hL hS kk => ?_) K
  obtain ⟨v1, sc, rfl, h1, hT⟩ := zsR_cons hS
  exact lv_pop (C hG).1 (C hG).2.1 hd (by rw [zrv_cat h1, hx]) (kk _ _ hL hT)
theorem z_dup2 (C : G → zCx w own cc nL ret D R p s m args meth c) {x y : zV} (hd : decode cc pc = .ok (.dup2, 1)) (hx : zcat x = 1) (hy : zcat y = 1) (hpc : pc + 1 = pc')
    (K : zSim G p l e R s m args below meth c w nL n0 Q pc' la (x :: y :: x :: y :: st) μ t) : zSim G p l e R s m args below meth c w nL n0 Q pc la (x :: y :: st) μ t := by
  subst hpc
  refine zstep (fun hG H locs cells slots QQ ls sc hL hS kk => ?_) K
  obtain ⟨v1, sc, rfl, h1, hU⟩ := zsR_cons hS
  obtain ⟨v2, sc, rfl, h2, hT⟩ := zsR_cons hU
  exact lv_dup2_11 (C hG).1 (C hG).2.1 hd (by rw [zrv_cat h1, hx]) (by rw [zrv_cat h2, hy]) (kk _ _ hL ⟨h1, h2, h1, h2, hT⟩)
theorem z_goto (C : G → zCx w own cc nL ret D R p s m args meth c) {off : Int} (hd : decode cc pc = .ok (.goto off, 3)) (ht : (pc : Int) + off = (pc' : Int)) (K : zSim G p l e R s m args below meth c w nL n0 Q pc' la st μ t) : zSim G p l e R s m args below meth c w nL n0 Q pc la st μ t :=
  zstep (fun hG H locs cells slots QQ ls sc hL hS kk => lv_goto (C hG).1 (C hG).2.1 hd ht (kk _ _ hL hS)) K
theorem zstep2 {cnd : Prop} [Decidable cnd] {pt pf : Nat} {st' : List zV} {a b : zRs} (hw : G → ∀ (H : Heap) (locs : List Loc) (cells slots : Nat) (QQ : State → Prop) (ls : Array Slot) (sc : List Value), zlR w (znc μ) nL la ls → zsR w (znc μ) st sc → (cnd → ∀ (ls' : Array Slot) (sc' : List Value), zlR w (znc μ) nL la ls' → zsR w (znc μ) st' sc' → W p l e R s m args below meth c H locs cells slots QQ (F0 m pt ls' sc')) → (¬ cnd → ∀ (ls' : Array Slot) (sc' : List Value), zlR w (znc μ) nL la ls' → zsR w (znc μ) st' sc' → W p l e R s m args below meth c H locs cells slots QQ (F0 m pf ls' sc')) → W p l e R s m args below meth c H locs cells slots QQ (F0 m pc ls sc))
    (K1 : cnd → zSim G p l e R s m args below meth c w nL n0 Q pt la st' μ a) (K2 : ¬ cnd → zSim G p l e R s m args below meth c w nL n0 Q pf la st' μ b) : zSim G p l e R s m args below meth c w nL n0 Q pc la st μ (if cnd then a else b) := by
  intro r μ' ht
  by_cases h : cnd
  · rw [if_pos h] at ht
    obtain ⟨h1, h2⟩ := K1 h r μ' ht
    exact ⟨h1, fun hG H locs ls sc hR hL hS h3 h4 h5 h6 => hw hG H locs _ _ _ ls sc hL hS (fun _ ls' sc' hL' hS' => h2 hG H locs ls' sc' hR hL' hS' h3 h4 h5 h6) (fun g => absurd h g)⟩
  · rw [if_neg h] at ht
    obtain ⟨h1, h2⟩ := K2 h r μ' ht
    exact ⟨h1, fun hG H locs ls sc hR hL hS h3 h4 h5 h6 => hw hG H locs _ _ _ ls sc hL hS (fun g => absurd g h) (fun _ ls' sc' hL' hS' => h2 hG H locs ls' sc' hR hL' hS' h3 h4 h5 h6)⟩
theorem z_if_eq (C : G → zCx w own cc nL ret D R p s m args meth c) {off x : Int} {a b : zRs} (hd : decode cc pc = .ok (.ifCond .eq off, 3)) (ht : (pc : Int) + off = (pc' : Int)) {pf : Nat} (hpf : pc + 3 = pf)
    (K1 : x = 0 → zSim G p l e R s m args below meth c w nL n0 Q pc' la st μ a) (K2 : ¬ x = 0 → zSim G p l e R s m args below meth c w nL n0 Q pf la st μ b) : zSim G p l e R s m args below meth c w nL n0 Q pc la (zI x :: st) μ (if x = 0 then a else b) := by
  subst hpf
  refine zstep2 (fun hG H locs cells slots QQ ls sc hL hS k1 k2 => ?_) K1 K2
  obtain ⟨_, sc, rfl, ⟨i, rfl, rfl⟩, hT⟩ := zsR_cons hS
  exact lv_if_eq (C hG).1 (C hG).2.1 hd ht (fun g => k1 (by simpa only [Int32.lt_iff_toInt_lt, Int32.le_iff_toInt_le, ← Int32.toInt_inj, Int32.toInt_zero, Decidable.not_not, ne_eq, ge_iff_le, gt_iff_lt] using g) _ _ hL hT) (fun g => k2 (by simpa only [Int32.lt_iff_toInt_lt, Int32.le_iff_toInt_le, ← Int32.toInt_inj, Int32.toInt_zero, Decidable.not_not, ne_eq, ge_iff_le, gt_iff_lt] using g) _ _ hL hT)
theorem z_icmp_eq (C : G → zCx w own cc nL ret D R p s m args meth c) {off x y : Int} {a b : zRs} (hd : decode cc pc = .ok (.if_icmp .eq off, 3)) (ht : (pc : Int) + off = (pc' : Int)) {pf : Nat} (hpf : pc + 3 = pf)
    (K1 : x = y → zSim G p l e R s m args below meth c w nL n0 Q pc' la st μ a) (K2 : ¬ x = y → zSim G p l e R s m args below meth c w nL n0 Q pf la st μ b) : zSim G p l e R s m args below meth c w nL n0 Q pc la (zI y :: zI x :: st) μ (if x = y then a else b) := by
  subst hpf
  refine zstep2 (fun hG H locs cells slots QQ ls sc hL hS k1 k2 => ?_) K1 K2
  obtain ⟨_, sc, rfl, ⟨j, rfl, rfl⟩, hU⟩ := zsR_cons hS
  obtain ⟨_, sc, rfl, ⟨i, rfl, rfl⟩, hT⟩ := zsR_cons hU
  exact lv_icmp_eq (C hG).1 (C hG).2.1 hd ht (fun g => k1 (by simpa only [Int32.lt_iff_toInt_lt, Int32.le_iff_toInt_le, ← Int32.toInt_inj, Int32.toInt_zero, Decidable.not_not, ne_eq, ge_iff_le, gt_iff_lt] using g) _ _ hL hT) (fun g => k2 (by simpa only [Int32.lt_iff_toInt_lt, Int32.le_iff_toInt_le, ← Int32.toInt_inj, Int32.toInt_zero, Decidable.not_not, ne_eq, ge_iff_le, gt_iff_lt] using g) _ _ hL hT)
theorem z_if_ne (C : G → zCx w own cc nL ret D R p s m args meth c) {off x : Int} {a b : zRs} (hd : decode cc pc = .ok (.ifCond .ne off, 3)) (ht : (pc : Int) + off = (pc' : Int)) {pf : Nat} (hpf : pc + 3 = pf)
    (K1 : x ≠ 0 → zSim G p l e R s m args below meth c w nL n0 Q pc' la st μ a) (K2 : ¬ x ≠ 0 → zSim G p l e R s m args below meth c w nL n0 Q pf la st μ b) : zSim G p l e R s m args below meth c w nL n0 Q pc la (zI x :: st) μ (if x ≠ 0 then a else b) := by
  subst hpf
  refine zstep2 (fun hG H locs cells slots QQ ls sc hL hS k1 k2 => ?_) K1 K2
  obtain ⟨_, sc, rfl, ⟨i, rfl, rfl⟩, hT⟩ := zsR_cons hS
  exact lv_if_ne (C hG).1 (C hG).2.1 hd ht (fun g => k1 (by simpa only [Int32.lt_iff_toInt_lt, Int32.le_iff_toInt_le, ← Int32.toInt_inj, Int32.toInt_zero, Decidable.not_not, ne_eq, ge_iff_le, gt_iff_lt] using g) _ _ hL hT) (fun g => k2 (by simpa only [Int32.lt_iff_toInt_lt, Int32.le_iff_toInt_le, ← Int32.toInt_inj, Int32.toInt_zero, Decidable.not_not, ne_eq, ge_iff_le, gt_iff_lt] using g) _ _ hL hT)
theorem z_icmp_ne (C : G → zCx w own cc nL ret D R p s m args meth c) {off x y : Int} {a b : zRs} (hd : decode cc pc = .ok (.if_icmp .ne off, 3)) (ht : (pc : Int) + off = (pc' : Int)) {pf : Nat} (hpf : pc + 3 = pf)
    (K1 : x ≠ y → zSim G p l e R s m args below meth c w nL n0 Q pc' la st μ a) (K2 : ¬ x ≠ y → zSim G p l e R s m args below meth c w nL n0 Q pf la st μ b) : zSim G p l e R s m args below meth c w nL n0 Q pc la (zI y :: zI x :: st) μ (if x ≠ y then a else b) := by
  subst hpf
  refine zstep2 (fun hG H locs cells slots QQ ls sc hL hS k1 k2 => ?_) K1 K2
  obtain ⟨_, sc, rfl, ⟨j, rfl, rfl⟩, hU⟩ := zsR_cons hS
  obtain ⟨_, sc, rfl, ⟨i, rfl, rfl⟩, hT⟩ := zsR_cons hU
  exact lv_icmp_ne (C hG).1 (C hG).2.1 hd ht (fun g => k1 (by simpa only [Int32.lt_iff_toInt_lt, Int32.le_iff_toInt_le, ← Int32.toInt_inj, Int32.toInt_zero, Decidable.not_not, ne_eq, ge_iff_le, gt_iff_lt] using g) _ _ hL hT) (fun g => k2 (by simpa only [Int32.lt_iff_toInt_lt, Int32.le_iff_toInt_le, ← Int32.toInt_inj, Int32.toInt_zero, Decidable.not_not, ne_eq, ge_iff_le, gt_iff_lt] using g) _ _ hL hT)
theorem z_if_lt (C : G → zCx w own cc nL ret D R p s m args meth c) {off x : Int} {a b : zRs} (hd : decode cc pc = .ok (.ifCond .lt off, 3)) (ht : (pc : Int) + off = (pc' : Int)) {pf : Nat} (hpf : pc + 3 = pf)
    (K1 : x < 0 → zSim G p l e R s m args below meth c w nL n0 Q pc' la st μ a) (K2 : ¬ x < 0 → zSim G p l e R s m args below meth c w nL n0 Q pf la st μ b) : zSim G p l e R s m args below meth c w nL n0 Q pc la (zI x :: st) μ (if x < 0 then a else b) := by
  subst hpf
  refine zstep2 (fun hG H locs cells slots QQ ls sc hL hS k1 k2 => ?_) K1 K2
  obtain ⟨_, sc, rfl, ⟨i, rfl, rfl⟩, hT⟩ := zsR_cons hS
  exact lv_if_lt (C hG).1 (C hG).2.1 hd ht (fun g => k1 (by simpa only [Int32.lt_iff_toInt_lt, Int32.le_iff_toInt_le, ← Int32.toInt_inj, Int32.toInt_zero, Decidable.not_not, ne_eq, ge_iff_le, gt_iff_lt] using g) _ _ hL hT) (fun g => k2 (by simpa only [Int32.lt_iff_toInt_lt, Int32.le_iff_toInt_le, ← Int32.toInt_inj, Int32.toInt_zero, Decidable.not_not, ne_eq, ge_iff_le, gt_iff_lt] using g) _ _ hL hT)
theorem z_icmp_lt (C : G → zCx w own cc nL ret D R p s m args meth c) {off x y : Int} {a b : zRs} (hd : decode cc pc = .ok (.if_icmp .lt off, 3)) (ht : (pc : Int) + off = (pc' : Int)) {pf : Nat} (hpf : pc + 3 = pf)
    (K1 : x < y → zSim G p l e R s m args below meth c w nL n0 Q pc' la st μ a) (K2 : ¬ x < y → zSim G p l e R s m args below meth c w nL n0 Q pf la st μ b) : zSim G p l e R s m args below meth c w nL n0 Q pc la (zI y :: zI x :: st) μ (if x < y then a else b) := by
  subst hpf
  refine zstep2 (fun hG H locs cells slots QQ ls sc hL hS k1 k2 => ?_) K1 K2
  obtain ⟨_, sc, rfl, ⟨j, rfl, rfl⟩, hU⟩ := zsR_cons hS
  obtain ⟨_, sc, rfl, ⟨i, rfl, rfl⟩, hT⟩ := zsR_cons hU
  exact lv_icmp_lt (C hG).1 (C hG).2.1 hd ht (fun g => k1 (by simpa only [Int32.lt_iff_toInt_lt, Int32.le_iff_toInt_le, ← Int32.toInt_inj, Int32.toInt_zero, Decidable.not_not, ne_eq, ge_iff_le, gt_iff_lt] using g) _ _ hL hT) (fun g => k2 (by simpa only [Int32.lt_iff_toInt_lt, Int32.le_iff_toInt_le, ← Int32.toInt_inj, Int32.toInt_zero, Decidable.not_not, ne_eq, ge_iff_le, gt_iff_lt] using g) _ _ hL hT)
theorem z_if_ge (C : G → zCx w own cc nL ret D R p s m args meth c) {off x : Int} {a b : zRs} (hd : decode cc pc = .ok (.ifCond .ge off, 3)) (ht : (pc : Int) + off = (pc' : Int)) {pf : Nat} (hpf : pc + 3 = pf)
    (K1 : x ≥ 0 → zSim G p l e R s m args below meth c w nL n0 Q pc' la st μ a) (K2 : ¬ x ≥ 0 → zSim G p l e R s m args below meth c w nL n0 Q pf la st μ b) : zSim G p l e R s m args below meth c w nL n0 Q pc la (zI x :: st) μ (if x ≥ 0 then a else b) := by
  subst hpf
  refine zstep2 (fun hG H locs cells slots QQ ls sc hL hS k1 k2 => ?_) K1 K2
  obtain ⟨_, sc, rfl, ⟨i, rfl, rfl⟩, hT⟩ := zsR_cons hS
  exact lv_if_ge (C hG).1 (C hG).2.1 hd ht (fun g => k1 (by simpa only [Int32.lt_iff_toInt_lt, Int32.le_iff_toInt_le, ← Int32.toInt_inj, Int32.toInt_zero, Decidable.not_not, ne_eq, ge_iff_le, gt_iff_lt] using g) _ _ hL hT) (fun g => k2 (by simpa only [Int32.lt_iff_toInt_lt, Int32.le_iff_toInt_le, ← Int32.toInt_inj, Int32.toInt_zero, Decidable.not_not, ne_eq, ge_iff_le, gt_iff_lt] using g) _ _ hL hT)
theorem z_icmp_ge (C : G → zCx w own cc nL ret D R p s m args meth c) {off x y : Int} {a b : zRs} (hd : decode cc pc = .ok (.if_icmp .ge off, 3)) (ht : (pc : Int) + off = (pc' : Int)) {pf : Nat} (hpf : pc + 3 = pf)
    (K1 : x ≥ y → zSim G p l e R s m args below meth c w nL n0 Q pc' la st μ a) (K2 : ¬ x ≥ y → zSim G p l e R s m args below meth c w nL n0 Q pf la st μ b) : zSim G p l e R s m args below meth c w nL n0 Q pc la (zI y :: zI x :: st) μ (if x ≥ y then a else b) := by
  subst hpf
  refine zstep2 (fun hG H locs cells slots QQ ls sc hL hS k1 k2 => ?_) K1 K2
  obtain ⟨_, sc, rfl, ⟨j, rfl, rfl⟩, hU⟩ := zsR_cons hS
  obtain ⟨_, sc, rfl, ⟨i, rfl, rfl⟩, hT⟩ := zsR_cons hU
  exact lv_icmp_ge (C hG).1 (C hG).2.1 hd ht (fun g => k1 (by simpa only [Int32.lt_iff_toInt_lt, Int32.le_iff_toInt_le, ← Int32.toInt_inj, Int32.toInt_zero, Decidable.not_not, ne_eq, ge_iff_le, gt_iff_lt] using g) _ _ hL hT) (fun g => k2 (by simpa only [Int32.lt_iff_toInt_lt, Int32.le_iff_toInt_le, ← Int32.toInt_inj, Int32.toInt_zero, Decidable.not_not, ne_eq, ge_iff_le, gt_iff_lt] using g) _ _ hL hT)
theorem z_if_gt (C : G → zCx w own cc nL ret D R p s m args meth c) {off x : Int} {a b : zRs} (hd : decode cc pc = .ok (.ifCond .gt off, 3)) (ht : (pc : Int) + off = (pc' : Int)) {pf : Nat} (hpf : pc + 3 = pf)
    (K1 : x > 0 → zSim G p l e R s m args below meth c w nL n0 Q pc' la st μ a) (K2 : ¬ x > 0 → zSim G p l e R s m args below meth c w nL n0 Q pf la st μ b) : zSim G p l e R s m args below meth c w nL n0 Q pc la (zI x :: st) μ (if x > 0 then a else b) := by
  subst hpf
  refine zstep2 (fun hG H locs cells slots QQ ls sc hL hS k1 k2 => ?_) K1 K2
  obtain ⟨_, sc, rfl, ⟨i, rfl, rfl⟩, hT⟩ := zsR_cons hS
  exact lv_if_gt (C hG).1 (C hG).2.1 hd ht (fun g => k1 (by simpa only [Int32.lt_iff_toInt_lt, Int32.le_iff_toInt_le, ← Int32.toInt_inj, Int32.toInt_zero, Decidable.not_not, ne_eq, ge_iff_le, gt_iff_lt] using g) _ _ hL hT) (fun g => k2 (by simpa only [Int32.lt_iff_toInt_lt, Int32.le_iff_toInt_le, ← Int32.toInt_inj, Int32.toInt_zero, Decidable.not_not, ne_eq, ge_iff_le, gt_iff_lt] using g) _ _ hL hT)
theorem z_icmp_gt (C : G → zCx w own cc nL ret D R p s m args meth c) {off x y : Int} {a b : zRs} (hd : decode cc pc = .ok (.if_icmp .gt off, 3)) (ht : (pc : Int) + off = (pc' : Int)) {pf : Nat} (hpf : pc + 3 = pf)
    (K1 : x > y → zSim G p l e R s m args below meth c w nL n0 Q pc' la st μ a) (K2 : ¬ x > y → zSim G p l e R s m args below meth c w nL n0 Q pf la st μ b) : zSim G p l e R s m args below meth c w nL n0 Q pc la (zI y :: zI x :: st) μ (if x > y then a else b) := by
  subst hpf
  refine zstep2 (fun hG H locs cells slots QQ ls sc hL hS k1 k2 => ?_) K1 K2
  obtain ⟨_, sc, rfl, ⟨j, rfl, rfl⟩, hU⟩ := zsR_cons hS
  obtain ⟨_, sc, rfl, ⟨i, rfl, rfl⟩, hT⟩ := zsR_cons hU
  exact lv_icmp_gt (C hG).1 (C hG).2.1 hd ht (fun g => k1 (by simpa only [Int32.lt_iff_toInt_lt, Int32.le_iff_toInt_le, ← Int32.toInt_inj, Int32.toInt_zero, Decidable.not_not, ne_eq, ge_iff_le, gt_iff_lt] using g) _ _ hL hT) (fun g => k2 (by simpa only [Int32.lt_iff_toInt_lt, Int32.le_iff_toInt_le, ← Int32.toInt_inj, Int32.toInt_zero, Decidable.not_not, ne_eq, ge_iff_le, gt_iff_lt] using g) _ _ hL hT)
theorem z_if_le (C : G → zCx w own cc nL ret D R p s m args meth c) {off x : Int} {a b : zRs} (hd : decode cc pc = .ok (.ifCond .le off, 3)) (ht : (pc : Int) + off = (pc' : Int)) {pf : Nat} (hpf : pc + 3 = pf)
    (K1 : x ≤ 0 → zSim G p l e R s m args below meth c w nL n0 Q pc' la st μ a) (K2 : ¬ x ≤ 0 → zSim G p l e R s m args below meth c w nL n0 Q pf la st μ b) : zSim G p l e R s m args below meth c w nL n0 Q pc la (zI x :: st) μ (if x ≤ 0 then a else b) := by
  subst hpf
  refine zstep2 (fun hG H locs cells slots QQ ls sc hL hS k1 k2 => ?_) K1 K2
  obtain ⟨_, sc, rfl, ⟨i, rfl, rfl⟩, hT⟩ := zsR_cons hS
  exact lv_if_le (C hG).1 (C hG).2.1 hd ht (fun g => k1 (by simpa only [Int32.lt_iff_toInt_lt, Int32.le_iff_toInt_le, ← Int32.toInt_inj, Int32.toInt_zero, Decidable.not_not, ne_eq, ge_iff_le, gt_iff_lt] using g) _ _ hL hT) (fun g => k2 (by simpa only [Int32.lt_iff_toInt_lt, Int32.le_iff_toInt_le, ← Int32.toInt_inj, Int32.toInt_zero, Decidable.not_not, ne_eq, ge_iff_le, gt_iff_lt] using g) _ _ hL hT)
theorem z_icmp_le (C : G → zCx w own cc nL ret D R p s m args meth c) {off x y : Int} {a b : zRs} (hd : decode cc pc = .ok (.if_icmp .le off, 3)) (ht : (pc : Int) + off = (pc' : Int)) {pf : Nat} (hpf : pc + 3 = pf)
    (K1 : x ≤ y → zSim G p l e R s m args below meth c w nL n0 Q pc' la st μ a) (K2 : ¬ x ≤ y → zSim G p l e R s m args below meth c w nL n0 Q pf la st μ b) : zSim G p l e R s m args below meth c w nL n0 Q pc la (zI y :: zI x :: st) μ (if x ≤ y then a else b) := by
  subst hpf
  refine zstep2 (fun hG H locs cells slots QQ ls sc hL hS k1 k2 => ?_) K1 K2
  obtain ⟨_, sc, rfl, ⟨j, rfl, rfl⟩, hU⟩ := zsR_cons hS
  obtain ⟨_, sc, rfl, ⟨i, rfl, rfl⟩, hT⟩ := zsR_cons hU
  exact lv_icmp_le (C hG).1 (C hG).2.1 hd ht (fun g => k1 (by simpa only [Int32.lt_iff_toInt_lt, Int32.le_iff_toInt_le, ← Int32.toInt_inj, Int32.toInt_zero, Decidable.not_not, ne_eq, ge_iff_le, gt_iff_lt] using g) _ _ hL hT) (fun g => k2 (by simpa only [Int32.lt_iff_toInt_lt, Int32.le_iff_toInt_le, ← Int32.toInt_inj, Int32.toInt_zero, Decidable.not_not, ne_eq, ge_iff_le, gt_iff_lt] using g) _ _ hL hT)
theorem z_ifnull (C : G → zCx w own cc nL ret D R p s m args meth c) {off x : Int} {a b : zRs} (hd : decode cc pc = .ok (.ifnull off, 3)) (ht : (pc : Int) + off = (pc' : Int)) {pf : Nat} (hpf : pc + 3 = pf)
    (K1 : x = -1 → zSim G p l e R s m args below meth c w nL n0 Q pc' la st μ a) (K2 : ¬ (x = -1) → zSim G p l e R s m args below meth c w nL n0 Q pf la st μ b) : zSim G p l e R s m args below meth c w nL n0 Q pc la (zR x :: st) μ (if x = -1 then a else b) := by
  subst hpf
  refine zstep2 (fun hG H locs cells slots QQ ls sc hL hS k1 k2 => ?_) K1 K2
  obtain ⟨_, sc, rfl, h2, hT⟩ := zsR_cons hS
  rcases h2 with ⟨rfl, rfl⟩ | ⟨q, rfl, hq, rfl⟩
  · exact lv_ifnullN (C hG).1 (C hG).2.1 hd ht (k1 rfl _ _ hL hT)
  · exact lv_ifnull (C hG).1 (C hG).2.1 hd (k2 (by omega) _ _ hL hT)
theorem z_ifnonnull (C : G → zCx w own cc nL ret D R p s m args meth c) {off x : Int} {a b : zRs} (hd : decode cc pc = .ok (.ifnonnull off, 3)) (ht : (pc : Int) + off = (pc' : Int)) {pf : Nat} (hpf : pc + 3 = pf)
    (K1 : x ≠ -1 → zSim G p l e R s m args below meth c w nL n0 Q pc' la st μ a) (K2 : ¬ (x ≠ -1) → zSim G p l e R s m args below meth c w nL n0 Q pf la st μ b) : zSim G p l e R s m args below meth c w nL n0 Q pc la (zR x :: st) μ (if x ≠ -1 then a else b) := by
  subst hpf
  refine zstep2 (fun hG H locs cells slots QQ ls sc hL hS k1 k2 => ?_) K1 K2
  obtain ⟨_, sc, rfl, h2, hT⟩ := zsR_cons hS
  rcases h2 with ⟨rfl, rfl⟩ | ⟨q, rfl, hq, rfl⟩
  · exact lv_ifnonnullN (C hG).1 (C hG).2.1 hd (k2 (by omega) _ _ hL hT)
  · exact lv_ifnonnull (C hG).1 (C hG).2.1 hd ht (k1 (by omega) _ _ hL hT)
theorem zrem32 (x y : Int32) : (x - x / y * y).toInt = x.toInt.tmod y.toInt := by
  rw [Int32.toInt_sub, Int32.toInt_mul, Int32.toInt_div, Int.bmod_mul_bmod, Int.sub_bmod_bmod]
  have h : x.toInt - x.toInt.tdiv y.toInt * y.toInt = x.toInt.tmod y.toInt := by rw [Int.tmod_def, Int.mul_comm]
  rw [h, ← Int32.toInt_mod]
  exact Int32.toInt_bmod_size _
theorem zrem64 (x y : Int64) : (x - x / y * y).toInt = x.toInt.tmod y.toInt := by
  rw [Int64.toInt_sub, Int64.toInt_mul, Int64.toInt_div, Int.bmod_mul_bmod, Int.sub_bmod_bmod]
  have h : x.toInt - x.toInt.tdiv y.toInt * y.toInt = x.toInt.tmod y.toInt := by rw [Int.tmod_def, Int.mul_comm]
  rw [h, ← Int64.toInt_mod]
  exact Int64.toInt_bmod_size _
theorem z_idiv (C : G → zCx w own cc nL ret D R p s m args meth c) {x y : Int} {k : zRs} (hd : decode cc pc = .ok (.idiv, 1)) (hpc : pc + 1 = pc')
    (K : ¬ y = 0 → zSim G p l e R s m args below meth c w nL n0 Q pc' la (zI (zw32 (x.tdiv y)) :: st) μ k) : zSim G p l e R s m args below meth c w nL n0 Q pc la (zI y :: zI x :: st) μ (znz y k) := by
  subst hpc
  unfold znz
  by_cases hy : y = 0
  · rw [if_pos hy]; exact znone
  · rw [if_neg hy]
    refine zstep (fun hG H locs cells slots QQ ls sc hL hS kk => ?_) (K hy)
    obtain ⟨_, sc, rfl, ⟨j, rfl, rfl⟩, hU⟩ := zsR_cons hS
    obtain ⟨_, sc, rfl, ⟨i, rfl, rfl⟩, hT⟩ := zsR_cons hU
    exact lv_idiv (C hG).1 (C hG).2.1 hd (fun g => hy (by rw [g]; rfl)) (kk _ _ hL ⟨⟨_, rfl, by rw [Int32.toInt_div, ← zw32_bmod]⟩, hT⟩)
theorem z_irem (C : G → zCx w own cc nL ret D R p s m args meth c) {x y : Int} {k : zRs} (hd : decode cc pc = .ok (.irem, 1)) (hpc : pc + 1 = pc')
    (K : ¬ y = 0 → zSim G p l e R s m args below meth c w nL n0 Q pc' la (zI (x.tmod y) :: st) μ k) : zSim G p l e R s m args below meth c w nL n0 Q pc la (zI y :: zI x :: st) μ (znz y k) := by
  subst hpc
  unfold znz
  by_cases hy : y = 0
  · rw [if_pos hy]; exact znone
  · rw [if_neg hy]
    refine zstep (fun hG H locs cells slots QQ ls sc hL hS kk => ?_) (K hy)
    obtain ⟨_, sc, rfl, ⟨j, rfl, rfl⟩, hU⟩ := zsR_cons hS
    obtain ⟨_, sc, rfl, ⟨i, rfl, rfl⟩, hT⟩ := zsR_cons hU
    exact lv_irem (C hG).1 (C hG).2.1 hd (fun g => hy (by rw [g]; rfl)) (kk _ _ hL ⟨⟨_, rfl, zrem32 _ _⟩, hT⟩)
theorem z_ldiv (C : G → zCx w own cc nL ret D R p s m args meth c) {x y : Int} {k : zRs} (hd : decode cc pc = .ok (.ldiv, 1)) (hpc : pc + 1 = pc')
    (K : ¬ y = 0 → zSim G p l e R s m args below meth c w nL n0 Q pc' la (zL (zw64 (x.tdiv y)) :: st) μ k) : zSim G p l e R s m args below meth c w nL n0 Q pc la (zL y :: zL x :: st) μ (znz y k) := by
  subst hpc
  unfold znz
  by_cases hy : y = 0
  · rw [if_pos hy]; exact znone
  · rw [if_neg hy]
    refine zstep (fun hG H locs cells slots QQ ls sc hL hS kk => ?_) (K hy)
    obtain ⟨_, sc, rfl, ⟨j, rfl, rfl⟩, hU⟩ := zsR_cons hS
    obtain ⟨_, sc, rfl, ⟨i, rfl, rfl⟩, hT⟩ := zsR_cons hU
    exact lv_ldiv (C hG).1 (C hG).2.1 hd (fun g => hy (by rw [g]; rfl)) (kk _ _ hL ⟨⟨_, rfl, by rw [Int64.toInt_div, ← zw64_bmod]⟩, hT⟩)
theorem z_lrem (C : G → zCx w own cc nL ret D R p s m args meth c) {x y : Int} {k : zRs} (hd : decode cc pc = .ok (.lrem, 1)) (hpc : pc + 1 = pc')
    (K : ¬ y = 0 → zSim G p l e R s m args below meth c w nL n0 Q pc' la (zL (x.tmod y) :: st) μ k) : zSim G p l e R s m args below meth c w nL n0 Q pc la (zL y :: zL x :: st) μ (znz y k) := by
  subst hpc
  unfold znz
  by_cases hy : y = 0
  · rw [if_pos hy]; exact znone
  · rw [if_neg hy]
    refine zstep (fun hG H locs cells slots QQ ls sc hL hS kk => ?_) (K hy)
    obtain ⟨_, sc, rfl, ⟨j, rfl, rfl⟩, hU⟩ := zsR_cons hS
    obtain ⟨_, sc, rfl, ⟨i, rfl, rfl⟩, hT⟩ := zsR_cons hU
    exact lv_lrem (C hG).1 (C hG).2.1 hd (fun g => hy (by rw [g]; rfl)) (kk _ _ hL ⟨⟨_, rfl, zrem64 _ _⟩, hT⟩)
def zne (x : Int) : List (Int × Int) → Prop
  | [] => True
  | q :: r => ¬ x = q.1 ∧ zne x r
theorem zne_off {x d : Int} : ∀ {ps : List (Int × Int)}, zne x ps → Op.lookupswitch.offset ps d x = d
  | [], _ => rfl
  | (a, o) :: r, h => by
    rw [Op.lookupswitch.offset_cons, if_neg (fun q => h.1 q.symm)]
    exact zne_off h.2
theorem z_tcase (C : G → zCx w own cc nL ret D R p s m args meth c) {dflt lo hi off : Int} {offs : Array Int} {len : Nat} {x : Int} {a b : zRs} (hd : decode cc pc = .ok (.tableswitch dflt lo hi offs, len)) (v : Int) (h1 : ¬ v < lo) (h2 : ¬ hi < v) (ho : offs[(v - lo).toNat]? = some off) (ht : (pc : Int) + off = (pc' : Int))
    (K1 : x = v → zSim G p l e R s m args below meth c w nL n0 Q pc' la st μ a) (K2 : ¬ x = v → zSim G p l e R s m args below meth c w nL n0 Q pc la (zI x :: st) μ b) : zSim G p l e R s m args below meth c w nL n0 Q pc la (zI x :: st) μ (if x = v then a else b) := by
  by_cases hx : x = v
  · rw [if_pos hx]
    refine zstep (fun hG H locs cells slots QQ ls sc hL hS kk => ?_) (K1 hx)
    subst hx
    obtain ⟨_, sc, rfl, ⟨i, rfl, rfl⟩, hT⟩ := zsR_cons hS
    exact lv_tableIn (C hG).1 (C hG).2.1 hd h1 h2 ho ht (kk _ _ hL hT)
  · rw [if_neg hx]; exact K2 hx
theorem z_lcase (C : G → zCx w own cc nL ret D R p s m args meth c) {dflt off : Int} {ps : Array (Int × Int)} {len : Nat} {x : Int} {a b : zRs} (hd : decode cc pc = .ok (.lookupswitch dflt ps, len)) (v : Int) (hp : (ps.toList.zip (ps.toList.drop 1)).all (fun (a, next) => a.1 < next.1) = true) (ho : Op.lookupswitch.offset ps.toList dflt v = off) (ht : (pc : Int) + off = (pc' : Int))
    (K1 : x = v → zSim G p l e R s m args below meth c w nL n0 Q pc' la st μ a) (K2 : ¬ x = v → zSim G p l e R s m args below meth c w nL n0 Q pc la (zI x :: st) μ b) : zSim G p l e R s m args below meth c w nL n0 Q pc la (zI x :: st) μ (if x = v then a else b) := by
  by_cases hx : x = v
  · rw [if_pos hx]
    refine zstep (fun hG H locs cells slots QQ ls sc hL hS kk => ?_) (K1 hx)
    subst hx
    obtain ⟨_, sc, rfl, ⟨i, rfl, rfl⟩, hT⟩ := zsR_cons hS
    exact lv_lookup (C hG).1 (C hG).2.1 hd hp ho ht (kk _ _ hL hT)
  · rw [if_neg hx]; exact K2 hx
theorem z_tdef (C : G → zCx w own cc nL ret D R p s m args meth c) {dflt lo hi : Int} {offs : Array Int} {len : Nat} {x : Int} (hd : decode cc pc = .ok (.tableswitch dflt lo hi offs, len)) (h : x < lo ∨ hi < x) (ht : (pc : Int) + dflt = (pc' : Int))
    (K : zSim G p l e R s m args below meth c w nL n0 Q pc' la st μ t) : zSim G p l e R s m args below meth c w nL n0 Q pc la (zI x :: st) μ t := by
  refine zstep (fun hG H locs cells slots QQ ls sc hL hS kk => ?_) K
  obtain ⟨_, sc, rfl, ⟨i, rfl, rfl⟩, hT⟩ := zsR_cons hS
  exact lv_tableOut (C hG).1 (C hG).2.1 hd h ht (kk _ _ hL hT)
theorem z_ldef (C : G → zCx w own cc nL ret D R p s m args meth c) {dflt : Int} {ps : Array (Int × Int)} {len : Nat} {x : Int} (hd : decode cc pc = .ok (.lookupswitch dflt ps, len)) (hp : (ps.toList.zip (ps.toList.drop 1)).all (fun (a, next) => a.1 < next.1) = true) (h : zne x ps.toList) (ht : (pc : Int) + dflt = (pc' : Int))
    (K : zSim G p l e R s m args below meth c w nL n0 Q pc' la st μ t) : zSim G p l e R s m args below meth c w nL n0 Q pc la (zI x :: st) μ t := by
  refine zstep (fun hG H locs cells slots QQ ls sc hL hS kk => ?_) K
  obtain ⟨_, sc, rfl, ⟨i, rfl, rfl⟩, hT⟩ := zsR_cons hS
  exact lv_lookup (C hG).1 (C hG).2.1 hd hp (zne_off h) ht (kk _ _ hL hT)
end ZOPS
