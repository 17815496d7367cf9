/-- the memory at the law's start: nothing is made; the static rows -/
def zmu0 : zMem := fun a j => if 1 ≤ a ∧ a ≤ 4 then zSV a.toNat j.toNat else 0
theorem zst_of {args : Array Value} {s : State} {k : Nat} (hk : 1 ≤ k ∧ k ≤ 4) (hts : ∀ z ∈ lw_tbl, z.before args s = true) (hn : ∀ z ∈ flatC (Jvm.Cond.and given_1 narrow_1), z.before args s = true) :
    ∃ t : Nat, va_Z (zST k).1 (zST k).2 "[I" (.ref t) (fun q => s.heap.size ≤ q) s s.heap ∧ ∃ cell, s.heap[t]? = some cell ∧ s.isArrayOf cell .int ∧ cell.vm ≠ .unknown ∧ ((zshp k).2 ≤ cell.slots.size ∧ cell.slots.size.toInt32 = Int32.ofNat (zshp k).2) ∧ ∀ j : Nat, j < (zshp k).2 → ∃ i : Int32, cell.slots[j]? = some (.int i) ∧ i.toInt = zSV k j := by
  have key : (Cond.laysStatic (zST k).1 (zST k).2 "[I" ∈ lw_tbl) ∧ (Cond.initialized (zST k).1 ∈ lw_tbl) ∧ Cond.arrayOf (.static (zST k).1 (zST k).2 "[I") .int ∈ flatC (Jvm.Cond.and given_1 narrow_1) ∧ Cond.eq (.length (.static (zST k).1 (zST k).2 "[I")) (.int (Int32.ofNat (zshp k).2)) ∈ flatC (Jvm.Cond.and given_1 narrow_1) ∧
      (∀ j, j < (zshp k).2 → Cond.eq (.elem (.static (zST k).1 (zST k).2 "[I") (.int (Int32.ofNat j))) (.int (Int32.ofInt (zSV k j))) ∈ flatC (Jvm.Cond.and given_1 narrow_1)) ∧ ∀ j, j < (zshp k).2 → (Int32.ofInt (zSV k j)).toInt = zSV k j := by
    obtain ⟨h1, h2⟩ := hk
    rcases (show k = 1 ∨ k = 2 ∨ k = 3 ∨ k = 4 by omega) with rfl | rfl | rfl | rfl <;> refine ⟨?_, ?_, ?_, ?_, ?_, ?_⟩ <;> decide +kernel
  obtain ⟨k1, k2, k3, k4, k5, k6⟩ := key
  have hsz : (zshp k).2 < 2 ^ 31 := by have := zshp_le k; omega
  obtain ⟨t, ht, cell, h1, h2, h3, h4, h5, h6, -⟩ := va_Tof (f := fun j => .int (Int32.ofInt (zSV k j))) (A := fun q => s.heap.size ≤ q) hsz (hn _ k3) (va_eqt (hn _ k4)) (fun j hj => va_eqt (hn _ (k5 j hj))) (fun a ha h => by omega)
  exact ⟨t, va_Zref (hts _ k1) (hts _ k2) ht (fun a ha h => by omega), cell, h1, h2, h3, ⟨h4, h5⟩, fun j hj => ⟨_, h6 j hj, k6 j hj⟩⟩
theorem zlaw_start {p : Program} {e : Env} {s : State} {m : MethodId} {below : List Frame} {meth : Method} {c : Code} (l : Launch) {b L : Nat} {xs : Nat → Int32} (hL : L ≤ 384) (C0 : lw_At p s m meth c b L xs) {r : Int} {μ' : zMem} (hP : fL_law L xs zmu0 = some (r, μ')) (h1 : znc μ' ≤ 600000) (h2 : zps (znc μ') ≤ 7302250) :
    W p l e room_1 s m #[Value.ref b] below meth c s.heap [] 0 0 (lw_Z below #[Value.ref b] s) (entryFrame m ([Value.ref b] : List Value).toArray 4) := by
  obtain ⟨hx, hb, hr, hml, hown, hts, hX, hbs, hlk, hgv⟩ := C0
  have hn := flat_of_before _ hgv
  have htw : ∀ z ∈ zwt, z.before #[Value.ref b] s = true := fun z hz => hts z (List.mem_filter.mp hz).1
  -- classes
  have hcls : ∀ k : Nat, ∃ (cC : ClassId) (iS : Nat → Nat), ∀ q, vwCl[k]? = some q → u_Kn s q.1 q.2.1 q.2.2 cC iS := by
    intro k
    cases hq : vwCl[k]? with
    | none => exact ⟨0, fun _ => 0, fun q h => by cases h⟩
    | some q =>
      obtain ⟨hc1, -, -⟩ := zcf (ci := k) (C := q.1) (T := q.2.1) (N := q.2.2) hq
      have hins : Cond.instantiable q.1 q.2.2 ∈ zwt := by
        have hall : ∀ i, i < 12 → ∀ q, vwCl[i]? = some q → Cond.instantiable q.1 q.2.2 ∈ zwt := by
          intro i hi
          rcases (show i = 0 ∨ i = 1 ∨ i = 2 ∨ i = 3 ∨ i = 4 ∨ i = 5 ∨ i = 6 ∨ i = 7 ∨ i = 8 ∨ i = 9 ∨ i = 10 ∨ i = 11 by omega) with rfl | rfl | rfl | rfl | rfl | rfl | rfl | rfl | rfl | rfl | rfl | rfl <;> intro q hq <;> cases hq
          · exact wi0
          · exact wi1
          · exact wi2
          · exact wi3
          · exact wi4
          · exact wi5
          · exact wi6
          · exact wi7
          · exact wi8
          · exact wi9
          · exact wi10
          · exact wi11
        exact hall k (List.getElem?_eq_some_iff.mp hq).1 q hq
      obtain ⟨cC, iS, hk⟩ := u_known htw hc1 (htw _ hins)
      exact ⟨cC, iS, fun q' h' => by cases h'; exact hk⟩
  have hex : ∀ k : Nat, ∃ z : ClassId × (Nat → Nat), ∀ q, vwCl[k]? = some q → u_Kn s q.1 q.2.1 q.2.2 z.1 z.2 := fun k => by
    obtain ⟨a, f, h⟩ := hcls k
    exact ⟨(a, f), h⟩
  obtain ⟨dd, hdd⟩ := Classical.axiomOfChoice hex
  -- arrays' classes
  have hprim : ∀ ty : FieldType, Cond.arrayClass ty ∈ zwt → ∃ cA, s.vm.findClass ("[" ++ ty.toString) = some cA ∧ ArrOfT s cA ty := fun ty hm => by
    obtain ⟨cA, kA, comp, q1, q2, q3⟩ := Cond.arrayClass_spec (htw _ hm)
    exact ⟨cA, q1, fun n z => ⟨fun _ h => (by cases h), kA, q2, comp, q3⟩⟩
  obtain ⟨a20, i20, o20⟩ := hprim .int wy20
  obtain ⟨a21, i21, o21⟩ := hprim .long wy21
  obtain ⟨a22, i22, o22⟩ := hprim .boolean wy22
  have hobj : ∀ C' : String, Cond.arrayOver (.object C') ∈ lw_tbl → ∃ cA, va_RA s cA (.object C') ∧ ArrOfT s cA (.object C') := fun C' hm => by
    obtain ⟨comp, cA, kA, q1, -, q2, q3, q4⟩ := Cond.arrayOver_spec (hts _ hm)
    exact ⟨cA, ⟨kA, comp, q2, q3, q1, q4⟩, fun n z => ⟨fun _ h => (by cases h), kA, q2, comp, q3⟩⟩
  obtain ⟨a23, i23, o23⟩ := hobj RX8 (by decide +kernel)
  obtain ⟨a24, i24, o24⟩ := hobj RX6 (by decide +kernel)
  obtain ⟨a25, i25, o25⟩ := hobj RX4 (by decide +kernel)
  obtain ⟨comp26, a26, kA26, q261, -, q262, q263, i26⟩ := arrayOverA_spec (t := .int) (hts (.arrayOver (.array .int)) (by decide +kernel))
  have o26 : ArrOfT s a26 (.array .int) := fun n z => ⟨fun _ h => (by cases h), kA26, q262, comp26, q263⟩
  obtain ⟨t1, z1, y1⟩ := zst_of (k := 1) (by decide) hts hn
  obtain ⟨t2, z2, y2⟩ := zst_of (k := 2) (by decide) hts hn
  obtain ⟨t3, z3, y3⟩ := zst_of (k := 3) (by decide) hts hn
  obtain ⟨t4, z4, y4⟩ := zst_of (k := 4) (by decide) hts hn
  let w : zW := (s.heap.size, (fun k => match k with | 0 => b | 1 => t1 | 2 => t2 | 3 => t3 | _ => t4), (fun k => (dd k).1, fun k => (dd k).2), (fun k => match k with | 20 => a20 | 21 => a21 | 22 => a22 | 23 => a23 | 24 => a24 | 25 => a25 | _ => a26), s.heap)
  have hKn : zKn w s := by
    refine ⟨rfl, ⟨fun k q hq => hdd k q hq, fun k q hq => ?_⟩, fun k hk1 hk4 => ?_, fun k hk1 hk4 => ?_, fun z hz => ?_, fun q hq => ?_⟩
    · have hk : k < 7 := (List.getElem?_eq_some_iff.mp hq).1
      rcases (show k = 0 ∨ k = 1 ∨ k = 2 ∨ k = 3 ∨ k = 4 ∨ k = 5 ∨ k = 6 by omega) with rfl | rfl | rfl | rfl | rfl | rfl | rfl <;> cases hq
      · exact ⟨o20, i20⟩
      · exact ⟨o21, i21⟩
      · exact ⟨o22, i22⟩
      · exact ⟨o23, i23⟩
      · exact ⟨o24, i24⟩
      · exact ⟨o25, i25⟩
      · exact ⟨o26, i26⟩
    · rcases (show k = 1 ∨ k = 2 ∨ k = 3 ∨ k = 4 by omega) with rfl | rfl | rfl | rfl
      · exact y1
      · exact y2
      · exact y3
      · exact y4
    · rcases (show k = 1 ∨ k = 2 ∨ k = 3 ∨ k = 4 by omega) with rfl | rfl | rfl | rfl
      · exact z1
      · exact z2
      · exact z3
      · exact z4
    · have hm : z ∈ lw_tbl := by
        simp only [zxw, List.mem_cons, List.not_mem_nil, or_false] at hz
        rcases hz with rfl | rfl | rfl | rfl <;> decide +kernel
      have h0 := hts z hm
      simp only [zxw, List.mem_cons, List.not_mem_nil, or_false] at hz
      rcases hz with rfl | rfl | rfl | rfl <;> exact h0
    · have hm : Cond.methodLinkNest q.1 q.2.1 q.2.2.1 q.2.2.2 ∈ lw_tbl := by
        simp only [zxn, List.mem_cons, List.not_mem_nil, or_false] at hq
        rcases hq with rfl | rfl | rfl | rfl | rfl | rfl | rfl <;> decide +kernel
      exact va_Nw.of rfl (hts _ hm)
  have hRep : zRep w zmu0 s.heap := by
    refine ⟨rfl, fun q _ => rfl, fun k hk => absurd hk (by rw [show znc zmu0 = 0 by decide +kernel]; omega), fun i j hi hi4 hj => ?_⟩
    unfold zmu0
    rw [if_pos (by omega)]
    rfl
  have C : zCx w RL cL_law 4 ret 1400 room_1 p s m #[Value.ref b] meth c := ⟨hx, hb, hml, hown, htw, hr, hlk, hKn, by decide, by decide⟩
  obtain ⟨-, g2⟩ := rL_law (G := True) (p := p) (l := l) (e := e) (R := room_1) (s := s) (m := m) (args := #[Value.ref b]) (below := below) (meth := meth) (c := c) (w := w) (L := L) (b := b) (xs := xs) (fun _ => C) (fun _ => ⟨hX, by omega, hbs⟩) (fun _ => rfl) (fun _ => ⟨rfl, rfl⟩) zmu0 r μ' hP
  have hAs : zsR w (znc zmu0) [zR 0] [Value.ref b] := ⟨Or.inr ⟨0, rfl, by omega, rfl⟩, trivial⟩
  have hl := lv_entry [Value.ref b] (n := 4) (Nat.le_of_ble_eq_true rfl)
  rw [lg_entry_eq]
  have h3 := g2 trivial s.heap [] _ [] hRep ⟨_, hl, zla_R hAs⟩ trivial (fun q hq => by cases hq) (Nat.zero_le _) h1 h2
  exact h3
