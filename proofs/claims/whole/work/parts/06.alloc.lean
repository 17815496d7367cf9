section ZALLOC
variable {G : Prop} {p : Program} {l : Launch} {e : Env} {R : Room} {s : State} {m : MethodId} {args : Array Value} {below : List Frame} {meth : Method} {c : Code} {w : zW} {own : String} {cc : ByteArray} {nL n0 D : Nat} {ret : Option FieldType} {Q : Int → zMem → State → Prop} {pc pc' : Nat} {la : List (Nat × zV)} {st : List zV} {μ : zMem} {t : zRs}
theorem zRep_grow {μ2 : zMem} {H H2 : Heap} {n : Nat} (hR : zRep w μ H) (hn : znc μ2 = znc μ + n) (ho : ∀ a j : Int, 0 ≤ a → a < ((5 + znc μ : Nat) : Int) → μ2 a j = μ a j) (hz : H2.size = H.size + n) (he : ∀ q : Nat, q < H.size → H2[q]? = H[q]?)
    (hc : ∀ i : Nat, i < n → ∃ cell, H2[H.size + i]? = some cell ∧ zcR w (znc μ + n) (zshp (5 + znc μ + i)) (μ2 ((5 + znc μ + i : Nat) : Int)) cell) : zRep w μ2 H2 := by
  obtain ⟨h1, h2, h3, h4⟩ := hR
  refine ⟨by omega, fun q hq => by rw [he q (by omega)]; exact h2 q hq, fun k hk => ?_, fun i j hi hi4 hj => ?_⟩
  · rw [hn] at hk ⊢
    by_cases hkn : k < znc μ
    · obtain ⟨cell, g1, g2⟩ := h3 k hkn
      refine ⟨cell, by rw [he _ (by omega)]; exact g1, ?_⟩
      have : μ2 ((5 + k : Nat) : Int) = μ ((5 + k : Nat) : Int) := funext fun j => ho _ j (by omega) (by omega)
      rw [this]
      exact zcR_mono (by omega) g2
    · obtain ⟨cell, g1, g2⟩ := hc (k - znc μ) (by omega)
      refine ⟨cell, ?_, ?_⟩
      · rw [show w.1 + k = H.size + (k - znc μ) by omega]; exact g1
      · rw [show 5 + k = 5 + znc μ + (k - znc μ) by omega]; exact g2
  · rw [ho _ _ (by omega) (by omega)]
    exact h4 i j hi hi4 hj
theorem zal_nc (n : Nat) : znc (zal μ n) = znc μ + n := by
  unfold znc zal
  rw [if_pos ⟨rfl, rfl⟩]
  unfold znc
  omega
theorem zal_old (n : Nat) (a j : Int) (h0 : 0 ≤ a) (h : a < ((5 + znc μ : Nat) : Int)) : zal μ n a j = μ a j := by
  unfold zal
  rw [if_neg (by omega), if_neg (by omega)]
theorem zal_new (n i : Nat) (hi : i < n) (j : Int) : zal μ n ((5 + znc μ + i : Nat) : Int) j = zdf (ztg (if (zshp (5 + znc μ + i)).1 < 12 then zty (zshp (5 + znc μ + i)).1 j.toNat else zat (zshp (5 + znc μ + i)).1)) := by
  unfold zal
  rw [if_neg (by omega), if_pos (by omega)]
  rfl
theorem zps_succ (n : Nat) : zps (n + 1) = zps n + zsz (5 + n) := rfl
/-- a new cell at the heap's end, blank -/
theorem zRep_push {H : Heap} {cell : Cell} (hR : zRep w μ H) (hc : zcR w (znc μ + 1) (zshp (5 + znc μ)) (zal μ 1 ((5 + znc μ : Nat) : Int)) cell) : zRep w (zal μ 1) (H.push cell) := by
  refine zRep_grow hR (zal_nc 1) (zal_old 1) (by simp) (fun q hq => by simp [Array.getElem?_push, Nat.ne_of_lt hq]) (fun i hi => ?_)
  have : i = 0 := by omega
  subst this
  exact ⟨cell, by simp, hc⟩
theorem znew_core {ci N idx : Nat} {C' : String} {T : u_T} {k : Int → zMem → zRs} (C : G → zCx w own cc nL ret D R p s m args meth c) (hcl : vwCl[ci]? = some (C', T, N)) (h1 : Cond.classLink own idx C' ∈ zwt) (h2 : Cond.instantiable C' N ∈ zwt) (h3 : Cond.initialized C' ∈ zwt) (hd : decode cc pc = .ok (.new idx, 3)) (hpc : pc + 3 = pc')
    (K : ∀ a μ', zSim G p l e R s m args below meth c w nL n0 Q pc' la (zR a :: st) μ' (k a μ')) : zSim G p l e R s m args below meth c w nL n0 Q pc la st μ (znew ci μ k) := by
  subst hpc
  unfold znew
  split
  · rename_i hsh
    intro r μ' ht
    obtain ⟨g1, g2⟩ := K _ _ r μ' ht
    have hnc : znc (zal μ 1) = znc μ + 1 := zal_nc 1
    rw [hnc] at g1 g2
    refine ⟨by omega, fun hG H locs ls sc hR hL hS h3' h4 h5 h6 => ?_⟩
    have hK := (C hG).2.2.2.2.2.2.2.1.2.1
    have hci : ci < 12 := (List.getElem?_eq_some_iff.mp hcl).1
    obtain ⟨hcf1, hcf2, -⟩ := zcf hcl
    have hw := (C hG).2.2.2.2.1
    have hsz : zsz (5 + znc μ) = N := by unfold zsz; rw [if_pos (by omega), hsh, znF_of hcl]
    have hpm := zps_mono g1
    rw [zps_succ, hsz] at hpm
    refine W.newc (C hG).1 (C hG).2.1 (C hG).2.2.2.1 (hw _ h1) (hw _ h2) (hw _ h3) rfl hd (by omega) (by have := zps_mono h4; omega) (fun cC kC q1 q2 q3 q4 => ?_)
    refine W.cs (cells' := znc μ + 1 - n0) (slots' := zps (znc μ + 1) - zps n0) (by omega) (by have := zps_mono h4; rw [zps_succ, hsz]; omega) ?_
    obtain ⟨hSl, hfc, kC', hkC', -⟩ := hK.1 ci _ hcl
    have ecC : cC = w.2.2.1.1 ci := Option.some.inj (q1.symm.trans hfc)
    subst ecC
    have hbl : (H.push { cls := w.2.2.1.1 ci, slots := kC.instanceTypes.map defaultValue, vm := .none })[H.size]? = some (blank (w.2.2.1.1 ci) kC) := by simp [blank]
    obtain ⟨cell, b1, b2, b3, b4⟩ := u_born (zty ci) hw hcf1 (hK.1 ci _ hcl) q2 hbl hcf2
    rw [hbl] at b1
    cases b1
    refine g2 hG _ _ _ _ (zRep_push hR ?_) (zlR_mono (by omega) hL) ⟨Or.inr ⟨5 + znc μ, rfl, by omega, ?_⟩, zsR_mono (by omega) hS⟩ h3' (by omega) h5 h6
    · refine ⟨b3, fun _ => ⟨?_, fun j hj => ?_⟩, fun h => by omega⟩
      · rw [hsh]
        first | done | exact b2
      · rw [hsh] at hj ⊢
        refine ⟨_, b4 j (by rw [← znF_of hcl]; exact hj), ?_⟩
        have := zal_new (μ := μ) 1 0 (by omega) (j : Int)
        rw [Nat.add_zero] at this
        rw [this, hsh, if_pos hci]
        exact zrv_default (zty_ok ci hci j hj)
    · rw [zad_new, ← hR.1]
  · exact znone
theorem zrow_blank {kd n : Nat} {x : zMem} (hk : 20 ≤ kd) (hk2 : kd ≤ 26) (hsh : zshp (5 + znc μ) = (kd, n)) {cell : Cell} (h1 : cell.vm = .none) (h2 : cell.cls = w.2.2.2.1 kd) (h3 : cell.slots = Array.replicate n (defaultValue (zat kd))) : zcR w (znc μ + 1) (zshp (5 + znc μ)) (zal μ 1 ((5 + znc μ : Nat) : Int)) cell := by
  rw [hsh]
  refine ⟨h1, fun h => ?_, fun _ => ⟨h2, by rw [h3]; simp, fun j hj => ⟨defaultValue (zat kd), by rw [h3]; simp [hj], ?_⟩⟩⟩
  · have h : kd < 12 := h
    omega
  · have := zal_new (μ := μ) 1 0 (by omega) (j : Int)
    rw [Nat.add_zero] at this
    rw [this, hsh, if_neg (by show ¬ kd < 12; omega)]
    have hok : zokT (zat kd) = true := by rcases (show kd = 20 ∨ kd = 21 ∨ kd = 22 ∨ kd = 23 ∨ kd = 24 ∨ kd = 25 ∨ kd = 26 by omega) with rfl | rfl | rfl | rfl | rfl | rfl | rfl <;> rfl
    exact zrv_default hok
theorem znN {n : Int} (h0 : 0 ≤ n) {i : Int32} (hi : i.toInt = n) : ¬ i < 0 ∧ i.toNatClampNeg = n.toNat := by
  refine ⟨fun h => ?_, by rw [← hi]; rfl⟩
  have := Int32.lt_iff_toInt_lt.mp h
  rw [Int32.toInt_zero] at this
  omega
theorem z_newarr {kd : Nat} {aty : ArrayType} {n : Int} {k : Int → zMem → zRs} (C : G → zCx w own cc nL ret D R p s m args meth c) (hkd : kd = 20 ∨ kd = 21 ∨ kd = 22) (hty : newarray.typeOf aty = zat kd) (h1 : Cond.arrayClass (zat kd) ∈ zwt) (hd : decode cc pc = .ok (.newarray aty, 2)) (hpc : pc + 2 = pc')
    (K : ∀ a μ', zSim G p l e R s m args below meth c w nL n0 Q pc' la (zR a :: st) μ' (k a μ')) : zSim G p l e R s m args below meth c w nL n0 Q pc la (zI n :: st) μ (znar kd n μ k) := by
  subst hpc
  unfold znar
  split
  · rename_i hsh
    obtain ⟨hsh, hn0, hn1⟩ := hsh
    intro r μ' ht
    obtain ⟨g1, g2⟩ := K _ _ r μ' ht
    have hnc : znc (zal μ 1) = znc μ + 1 := zal_nc 1
    rw [hnc] at g1 g2
    refine ⟨by omega, fun hG H locs ls sc hR hL hS h3' h4 h5 h6 => ?_⟩
    obtain ⟨_, sc, rfl, ⟨i, rfl, hi⟩, hT⟩ := zsR_cons hS
    obtain ⟨i1, i2⟩ := znN hn0 hi
    have hsz : zsz (5 + znc μ) = n.toNat := by unfold zsz; rw [hsh, if_neg (by show ¬ kd < 12; omega)]
    have hpm := zps_mono g1
    rw [zps_succ, hsz] at hpm
    have hps := zps_mono h4
    have hcb : componentBytes (zat kd) ≤ 8 := by rcases hkd with rfl | rfl | rfl <;> decide
    refine W.newa (C hG).1 (C hG).2.1 (atype := aty) (by rw [hty]; exact (C hG).2.2.2.2.1 _ h1) rfl hd rfl i1 (by rw [hty, i2]; exact Nat.le_trans (Nat.mul_le_mul (show n.toNat ≤ 1000 by omega) hcb) (by omega)) (by omega) (by rw [i2]; omega) (fun cA kA comp q1 q2 q3 => ?_)
    refine W.cs (cells' := znc μ + 1 - n0) (slots' := zps (znc μ + 1) - zps n0) (by omega) (by rw [zps_succ, hsz, i2]; omega) ?_
    refine g2 hG _ _ _ _ (zRep_push hR (zrow_blank (x := μ) (by omega) (by omega) hsh rfl ?_ (by rw [hty, i2]))) (zlR_mono (by omega) hL) ⟨Or.inr ⟨5 + znc μ, rfl, by omega, by rw [zad_new, ← hR.1]⟩, zsR_mono (by omega) hT⟩ h3' (by omega) h5 h6
    have hRA := ((C hG).2.2.2.2.2.2.2.1.2.1.2 _ _ (zty_at (w := w) (kd := kd) (by omega) (by omega))).2
    rw [hty] at q1
    rcases hkd with rfl | rfl | rfl <;> exact Option.some.inj (q1.symm.trans hRA)
  · exact znone
theorem z_anewarr {kd idx : Nat} {C' : String} {n : Int} {k : Int → zMem → zRs} (C : G → zCx w own cc nL ret D R p s m args meth c) (hkd : 23 ≤ kd ∧ kd ≤ 25) (hty : zat kd = .object C') (h1 : Cond.classLink own idx C' ∈ zwt) (h2 : Cond.arrayOver (.object C') ∈ zxw) (hd : decode cc pc = .ok (.anewarray idx, 3)) (hpc : pc + 3 = pc')
    (K : ∀ a μ', zSim G p l e R s m args below meth c w nL n0 Q pc' la (zR a :: st) μ' (k a μ')) : zSim G p l e R s m args below meth c w nL n0 Q pc la (zI n :: st) μ (znar kd n μ k) := by
  subst hpc
  unfold znar
  split
  · rename_i hsh
    obtain ⟨hsh, hn0, hn1⟩ := hsh
    intro r μ' ht
    obtain ⟨g1, g2⟩ := K _ _ r μ' ht
    have hnc : znc (zal μ 1) = znc μ + 1 := zal_nc 1
    rw [hnc] at g1 g2
    refine ⟨by omega, fun hG H locs ls sc hR hL hS h3' h4 h5 h6 => ?_⟩
    obtain ⟨_, sc, rfl, ⟨i, rfl, hi⟩, hT⟩ := zsR_cons hS
    obtain ⟨i1, i2⟩ := znN hn0 hi
    have hsz : zsz (5 + znc μ) = n.toNat := by unfold zsz; rw [hsh, if_neg (by show ¬ kd < 12; omega)]
    have hpm := zps_mono g1
    rw [zps_succ, hsz] at hpm
    have hps := zps_mono h4
    have hao : va_AO C' s := (C hG).2.2.2.2.2.2.2.1.2.2.2.2.1 _ h2
    refine W.anew (C hG).1 (C hG).2.1 (C hG).2.2.2.1 ((C hG).2.2.2.2.1 _ h1) hao.use rfl hd rfl i1 (by rw [i2]; omega) (by omega) (by rw [i2]; omega) (fun cA kA comp q1 q2 q3 q4 => ?_)
    refine W.cs (cells' := znc μ + 1 - n0) (slots' := zps (znc μ + 1) - zps n0) (by omega) (by rw [zps_succ, hsz, i2]; omega) ?_
    refine g2 hG _ _ _ _ (zRep_push hR (zrow_blank (x := μ) (by omega) (by omega) hsh rfl ?_ (by rw [hty, i2]; rfl))) (zlR_mono (by omega) hL) ⟨Or.inr ⟨5 + znc μ, rfl, by omega, by rw [zad_new, ← hR.1]⟩, zsR_mono (by omega) hT⟩ h3' (by omega) h5 h6
    have hRA := ((C hG).2.2.2.2.2.2.2.1.2.1.2 _ _ (zty_at (w := w) (kd := kd) (by omega) (by omega))).2
    rw [hty] at hRA
    obtain ⟨kA2, comp2, r1, r2, r3, r4⟩ := hRA
    exact Option.some.inj (q1.symm.trans r4)
  · exact znone
/-- new int[n][k]: the outer row, then the inner ones -/
def zmn (μ : zMem) (n : Nat) : zMem := fun a j => if a = -1 ∧ j = 0 then ((znc μ + (1 + n) : Nat) : Int) else if a = ((5 + znc μ : Nat) : Int) then ((5 + znc μ + 1 : Nat) : Int) + j else if ((5 + znc μ : Nat) : Int) < a ∧ a < ((5 + znc μ + (1 + n) : Nat) : Int) then 0 else μ a j
def zmna (n k : Int) (μ : zMem) (K : Int → zMem → zRs) : zRs := if zshp (5 + znc μ) = (26, n.toNat) ∧ 0 ≤ n ∧ n ≤ 1000 ∧ 0 ≤ k ∧ k ≤ 1000 ∧ ∀ i : Nat, i < n.toNat → zshp (5 + znc μ + 1 + i) = (20, k.toNat) then K ((5 + znc μ : Nat) : Int) (zmn μ n.toNat) else none
theorem zps_rows {a k : Nat} : ∀ n : Nat, (∀ i : Nat, i < n → zshp (5 + a + i) = (20, k)) → zps (a + n) = zps a + n * k
  | 0, _ => by simp
  | n + 1, h => by
    show zps (a + n) + zsz (5 + (a + n)) = _
    rw [zps_rows n (fun i hi => h i (by omega))]
    have : zsz (5 + (a + n)) = k := by
      unfold zsz
      rw [show 5 + (a + n) = 5 + a + n by omega, h n (by omega)]
      rfl
    rw [this, Nat.succ_mul]
    omega
theorem zmn_nc (n : Nat) : znc (zmn μ n) = znc μ + (1 + n) := by
  unfold zmn
  show (if (-1 : Int) = -1 ∧ (0 : Int) = 0 then _ else _ : Int).toNat = _
  rw [if_pos ⟨rfl, rfl⟩]
  omega
theorem zouter (c : ClassId) (N h0 : Nat) : ∀ i : Nat, Jvm.Free.Multi.outerC c N h0 i = arrV c N (fun j => va_rf (if j < i then some (h0 + 1 + j) else none))
  | 0 => by
    show ({ cls := c, slots := Array.replicate N .null, vm := .none } : Cell) = _
    rw [arrV_new]
    refine congrArg (arrV c N) (funext fun j => ?_)
    simp [va_rf]
  | i + 1 => by
    show (Jvm.Free.Multi.outerC c N h0 i).setSlot i (.ref (h0 + 1 + i)) = _
    rw [zouter c N h0 i, arrV_store]
    refine congrArg (arrV c N) (funext fun j => ?_)
    by_cases e : j = i
    · subst e
      simp [updV, va_rf]
    · by_cases h : j < i
      · simp [updV, e, h, Nat.lt_succ_of_lt h]
      · simp [updV, e, h, show ¬ j < i + 1 by omega]
theorem zouter_R {N M h0 : Nat} {ca : ClassId} (hca : ca = w.2.2.2.1 26) (hM : M = znc μ + (1 + N)) (hs : h0 = w.1 + znc μ) : zcR w M (26, N) (zmn μ N ((5 + znc μ : Nat) : Int)) (Jvm.Free.Multi.outerC ca N h0 N) := by
  rw [zouter]
  refine ⟨rfl, fun h => absurd h (by decide : ¬ (26 : Nat) < 12), fun _ => ⟨hca, arrV_size _ _ _, fun j hj => ⟨_, arrV_read _ _ hj, ?_⟩⟩⟩
  rw [if_pos hj]
  refine Or.inr ⟨5 + (znc μ + 1 + j), ?_, by have : j < N := hj; omega, ?_⟩
  · unfold zmn
    rw [if_neg (by omega), if_pos rfl]
    omega
  · rw [zad_new, hs]
    show Value.ref (w.1 + znc μ + 1 + j) = Value.ref (w.1 + (znc μ + 1 + j))
    rw [show w.1 + znc μ + 1 + j = w.1 + (znc μ + 1 + j) by omega]
theorem zinner_R {N K y M : Nat} (hy : y < N) : zcR w M (20, K) (zmn μ N ((5 + znc μ + 1 + y : Nat) : Int)) (Jvm.Free.Multi.innerC (w.2.2.2.1 20) K (defaultValue .int)) := by
  refine ⟨rfl, fun h => absurd h (by decide : ¬ (20 : Nat) < 12), fun _ => ⟨rfl, by simp [Jvm.Free.Multi.innerC], fun j hj => ⟨.int 0, ?_, 0, rfl, ?_⟩⟩⟩
  · have hj' : j < K := hj
    simp [Jvm.Free.Multi.innerC, hj', defaultValue]
  · unfold zmn
    rw [if_neg (by omega), if_neg (by omega), if_pos (by omega)]
    rfl
theorem z_mna {idx : Nat} {n k : Int} {K0 : Int → zMem → zRs} (C : G → zCx w own cc nL ret D R p s m args meth c) (h1 : Cond.classLink own idx "[[I" ∈ zwt) (h2 : Cond.arrayClass .int ∈ zwt) (hd : decode cc pc = .ok (.multianewarray idx 2, 4)) (hpc : pc + 4 = pc')
    (K : ∀ a μ', zSim G p l e R s m args below meth c w nL n0 Q pc' la (zR a :: st) μ' (K0 a μ')) : zSim G p l e R s m args below meth c w nL n0 Q pc la (zI k :: zI n :: st) μ (zmna n k μ K0) := by
  subst hpc
  unfold zmna
  split
  · rename_i hsh
    obtain ⟨hsh, hn0, hn1, hk0, hk1, hrows⟩ := hsh
    intro r μ' ht
    obtain ⟨g1, g2⟩ := K _ _ r μ' ht
    have hnc := zmn_nc (μ := μ) n.toNat
    rw [hnc] at g1 g2
    refine ⟨by omega, fun hG H locs ls sc hR hL hS h3' h4 h5 h6 => ?_⟩
    obtain ⟨_, sc, rfl, ⟨ik, rfl, hik⟩, hU⟩ := zsR_cons hS
    obtain ⟨_, sc, rfl, ⟨i, rfl, hi⟩, hT⟩ := zsR_cons hU
    obtain ⟨i1, i2⟩ := znN hn0 hi
    obtain ⟨k1, k2⟩ := znN hk0 hik
    have hsz : zsz (5 + znc μ) = n.toNat := by unfold zsz; rw [hsh]; rfl
    have hpr : zps (znc μ + 1 + n.toNat) = zps (znc μ + 1) + n.toNat * k.toNat := zps_rows n.toNat (fun i hi => by rw [show 5 + (znc μ + 1) + i = 5 + znc μ + 1 + i by omega]; exact hrows i hi)
    rw [zps_succ, hsz] at hpr
    have hpm := zps_mono g1
    rw [show znc μ + (1 + n.toNat) = znc μ + 1 + n.toNat by omega, hpr] at hpm
    have hps := zps_mono h4
    have hK := (C hG).2.2.2.2.2.2.2.1
    have hRA : s.vm.findClass "[[I" = some (w.2.2.2.1 26) := (hK.2.1.2 6 _ rfl).2
    have hRI : s.vm.findClass "[I" = some (w.2.2.2.1 20) := (hK.2.1.2 0 _ rfl).2
    intro T hT0 Xs
    obtain ⟨vm₁, cA, comp, hW, fA, fC, hO, hI, X', step⟩ := Jvm.Stand.multianewarray2F Xs (C hG).1 (ty := .int) (C hG).2.2.2.1 ((C hG).2.2.2.2.1 _ h1) (hK.2.2.2.2.1 (.arrayOver (.array .int)) (by decide +kernel)) ((C hG).2.2.2.2.1 _ h2) (g := F0 m pc ls (.int ik :: .int i :: sc)) rfl (by rw [(C hG).2.1]; exact hd) rfl i1 k1 (by rw [i2]; omega) (by rw [k2]; show _ * 4 ≤ _; omega) (by rw [k2]; omega) rfl rfl (by rw [i2]; omega) (by rw [i2, k2]; omega)
    have ecA : cA = w.2.2.2.1 26 := Option.some.inj (fA.symm.trans hRA)
    have ecm : comp = w.2.2.2.1 20 := Option.some.inj (fC.symm.trans hRI)
    subst ecA; subst ecm
    rw [i2, k2] at X' step
    have hTh : (T.setVm vm₁).heap = H := hT0
    obtain ⟨f1, f2, -, -⟩ := Jvm.Free.Multi.fill_facts (T.setVm vm₁) (w.2.2.2.1 26) (w.2.2.2.1 20) n.toNat k.toNat (defaultValue .int) n.toNat
    have hold : ∀ x : Nat, x < H.size → (Jvm.Free.Multi.fill (T.setVm vm₁) (w.2.2.2.1 26) (w.2.2.2.1 20) n.toNat k.toNat (defaultValue .int) n.toNat).heap[x]? = H[x]? := fun x hx => by
      have := Jvm.Free.Multi.fill_old (T.setVm vm₁) (w.2.2.2.1 26) (w.2.2.2.1 20) n.toNat k.toNat (defaultValue .int) (a := x) (by rw [hTh]; exact hx) n.toNat
      rw [hTh] at this
      exact this
    have hrow : ∀ j : Nat, j < n.toNat → (Jvm.Free.Multi.fill (T.setVm vm₁) (w.2.2.2.1 26) (w.2.2.2.1 20) n.toNat k.toNat (defaultValue .int) n.toNat).heap[H.size + 1 + j]? = some (Jvm.Free.Multi.innerC (w.2.2.2.1 20) k.toNat (defaultValue .int)) := fun j hj => by
      have := Jvm.Free.Multi.fill_inner (T.setVm vm₁) (w.2.2.2.1 26) (w.2.2.2.1 20) n.toNat k.toNat (defaultValue .int) n.toNat j hj
      rw [hTh] at this
      exact this
    rw [hTh] at f1 f2
    generalize hF : Jvm.Free.Multi.fill (T.setVm vm₁) (w.2.2.2.1 26) (w.2.2.2.1 20) n.toNat k.toNat (defaultValue .int) n.toNat = F at X' step f1 f2 hold hrow
    have hRep : zRep w (zmn μ n.toNat) F.heap := by
      refine zRep_grow (n := 1 + n.toNat) hR hnc (fun a j ha hb => ?_) (by rw [f1]; omega) hold (fun x hx => ?_)
      · unfold zmn
        rw [if_neg (by omega), if_neg (by omega), if_neg (by omega)]
      · by_cases hx0 : x = 0
        · subst hx0
          refine ⟨_, f2, ?_⟩
          rw [Nat.add_zero, hsh]
          exact zouter_R rfl (by omega) hR.1
        · obtain ⟨y, rfl⟩ : ∃ y, x = 1 + y := ⟨x - 1, by omega⟩
          refine ⟨_, by rw [show H.size + (1 + y) = H.size + 1 + y by omega]; exact hrow y (by omega), ?_⟩
          rw [show 5 + znc μ + (1 + y) = 5 + znc μ + 1 + y by omega, hrows y (by omega)]
          exact zinner_R (by omega)
    obtain ⟨t2, a1, b1⟩ := g2 hG F.heap locs ls (.ref (w.1 + znc μ) :: sc) hRep (zlR_mono (by omega) hL) ⟨Or.inr ⟨5 + znc μ, rfl, by omega, by rw [zad_new]⟩, zsR_mono (by omega) hT⟩ h3' (by omega) h5 h6 F rfl (by
      have e1 : znc μ - n0 + 1 + n.toNat = znc μ + (1 + n.toNat) - n0 := by omega
      have e2 : zps (znc μ) - zps n0 + n.toNat + n.toNat * k.toNat = zps (znc μ + (1 + n.toNat)) - zps n0 := by
        rw [show znc μ + (1 + n.toNat) = znc μ + 1 + n.toNat by omega, hpr]; omega
      rw [← e1, ← e2]
      exact X')
    refine ⟨t2, step t2 ?_, b1⟩
    rw [hT0, hR.1]
    exact a1
  · exact znone
/-- a place of a row of objects -/
def zasr (kd ci : Nat) (a j x : Int) (μ : zMem) (k : zMem → zRs) : zRs := if zisC ci x then zast kd a j x μ k else none
theorem z_aast {kd ci N : Nat} {C' : String} {T : u_T} {a j x : Int} {k : zMem → zRs} (C : G → zCx w own cc nL ret D R p s m args meth c) (hkd : 23 ≤ kd ∧ kd ≤ 25) (hcl : vwCl[ci]? = some (C', T, N)) (hty : zat kd = .object C') (hd : decode cc pc = .ok (.aastore, 1)) (hpc : pc + 1 = pc')
    (K : ∀ μ', zSim G p l e R s m args below meth c w nL n0 Q pc' la st μ' (k μ')) : zSim G p l e R s m args below meth c w nL n0 Q pc la (zR x :: zI j :: zR a :: st) μ (zasr kd ci a j x μ k) := by
  subst hpc
  unfold zasr
  split
  rotate_left
  · exact znone
  rename_i hxc
  unfold zast
  split
  · rename_i hc
    simp only [zisW, Bool.and_eq_true, decide_eq_true_eq] at hc
    obtain ⟨c5, hc⟩ := hc
    obtain ⟨c1, c2, c3, c4⟩ := zisA_spec hc
    intro r μ' ht
    obtain ⟨h1, h2⟩ := K _ r μ' ht
    rw [zupd_nc (by omega)] at h1 h2
    refine ⟨h1, fun hG H locs ls sc hR hL hS h3 h4 h5 h6 => ?_⟩
    obtain ⟨_, sc, rfl, hz, hV⟩ := zsR_cons hS
    obtain ⟨_, sc, rfl, ⟨i, rfl, rfl⟩, hU⟩ := zsR_cons hV
    obtain ⟨v, sc, rfl, hv, hT⟩ := zsR_cons hU
    obtain ⟨kx, cx, rfl, hkx, hkxd, rfl, hcx, hcxR⟩ := zobj hR hz hxc
    obtain ⟨q, cell, rfl, rfl, g1, g2, g3, g4, -, g6⟩ := zarr (C hG).2.2.2.2.2.2.2.1 hR hv c1 c2 (by omega) (by omega)
    obtain ⟨kk, rfl, hk, had, g7, g8, g9⟩ := g6 (by omega)
    have c2' : (zshp (5 + kk)).1 = kd := c2
    obtain ⟨i1, i2, i3⟩ := zidx c3 (n := (zshp (5 + kk)).2) c4
    have hK := (C hG).2.2.2.2.2.2.2.1.2.1
    have hcls := (hK.1 ci _ hcl).2
    have hRA := (hK.2 _ _ (zty_at (w := w) (kd := kd) (by omega) (by omega))).2
    rw [hty] at hRA
    obtain ⟨kA, comp, k1, k2, k3, -⟩ := hRA
    have hcomp : comp = w.2.2.1.1 ci := Option.some.inj (k3.symm.trans hcls.1)
    subst hcomp
    obtain ⟨kC, hkC, -⟩ := hcls.2
    have hci : ci < 12 := (List.getElem?_eq_some_iff.mp hcl).1
    have hcxc : cx.cls = w.2.2.1.1 ci := by rw [← hkxd]; exact (hcxR.2.1 (by omega)).1
    rw [had] at g1 ⊢
    refine W.aast (C hG).1 (C hG).2.1 g1 (fun q h => by rw [g7] at h; cases h) g3 (by rw [g8]; exact k1) k2 rfl hkC ⟨fun h => i1 _ g4.1 (Or.inl h), Nat.lt_of_lt_of_le i3 g4.1⟩ hcx (fun q h => by rw [hcxR.1] at h; cases h) (by rw [hcxc]; exact hkC) (by rw [hcxc]; exact va_assign hcls) rfl rfl hd (fun H' e1 e2 e3 => ?_)
    refine h2 hG H' _ ls sc ?_ hL hT (fun q hq => ?_) h4 h5 h6
    · rw [← i2]
      refine zRep_upd hR hk e1 e2 e3 (zcell_setA g9 (by omega) i3 ?_)
      rw [c2', hty]
      exact Or.inr ⟨5 + kx, rfl, by omega, by rw [zad_new]⟩
    · rcases List.mem_append.mp hq with h | h
      · exact h3 q h
      · cases List.mem_singleton.mp h
        exact Nat.le_add_right _ _
  · exact znone
theorem z_gets {idx q : Nat} (C : G → zCx w own cc nL ret D R p s m args meth c) (hq : 1 ≤ q ∧ q ≤ 4) (h1 : Cond.fieldLink own idx (zST q).1 (zST q).2 "[I" ∈ zwt) (hd : decode cc pc = .ok (.getstatic idx, 3)) (hpc : pc + 3 = pc')
    (K : zSim G p l e R s m args below meth c w nL n0 Q pc' la (zR (q : Int) :: st) μ t) : zSim G p l e R s m args below meth c w nL n0 Q pc la st μ t := by
  subst hpc
  intro r μ' ht
  obtain ⟨g1, g2⟩ := K r μ' ht
  refine ⟨g1, fun hG H locs ls sc hR hL hS h3 h4 h5 h6 => ?_⟩
  obtain ⟨cf, kf, fi, f, a, cell, z1, z2, z3, z4, z5, z6, z7, z8⟩ := (C hG).2.2.2.2.2.2.2.1.2.2.2.1 q hq.1 hq.2
  have hlt : a < w.1 := by rw [← (C hG).2.2.2.2.2.2.2.1.1]; exact (Array.getElem?_eq_some_iff.mp z5).1
  refine W.gets (C hG).1 (C hG).2.1 (C hG).2.2.2.1 ((C hG).2.2.2.2.1 _ h1) z1 z2 z3 z4 (by rw [hR.2.1 _ hlt]; exact z5) (by intro h; rw [h] at z6; cases z6) z7 rfl hd ?_
  exact g2 hG H locs ls _ hR hL ⟨Or.inr ⟨q, rfl, by omega, by unfold zad; rw [if_pos (by omega)]⟩, hS⟩ h3 h4 h5 h6
end ZALLOC
