/-! ===== the numbers' world: values, memory, what a heap must be to stand for a memory ===== -/
/-- a value: an int, a long, or a place (-1: null; 0 the script, 1 .. 4 the static rows, from 5 on the cells made) -/
abbrev zV : Type := Int ⊕ (Int ⊕ Int)
abbrev zI (x : Int) : zV := .inl x
abbrev zL (x : Int) : zV := .inr (.inl x)
abbrev zR (x : Int) : zV := .inr (.inr x)
/-- memory: by cell and place in it; at (-1, 0): how many cells have been made -/
abbrev zMem : Type := Int → Int → Int
abbrev zRs : Type := Option (Int × zMem)
def zupd (μ : zMem) (a j v : Int) : zMem := fun a' j' => if a' = a ∧ j' = j then v else μ a' j'
def znc (μ : zMem) : Nat := (μ (-1) 0).toNat
/-- base, old cells, classes and slots, array classes, the heap at the start -/
abbrev zW : Type := Nat × (Nat → Nat) × va_G × (Nat → ClassId) × Heap
def zad (w : zW) (k : Nat) : Nat := if k < 5 then w.2.1 k else w.1 + (k - 5)
def zrv (w : zW) (n : Nat) : zV → Value → Prop
  | .inl x, v => ∃ i : Int32, v = .int i ∧ i.toInt = x
  | .inr (.inl x), v => ∃ i : Int64, v = .long i ∧ i.toInt = x
  | .inr (.inr a), v => (a = -1 ∧ v = .null) ∨ ∃ k : Nat, a = (k : Int) ∧ k < 5 + n ∧ v = .ref (zad w k)
def zsR (w : zW) (n : Nat) : List zV → List Value → Prop
  | [], [] => True
  | x :: xs, v :: vs => zrv w n x v ∧ zsR w n xs vs
  | _, _ => False
def zcat : zV → Nat
  | .inr (.inl _) => 2
  | _ => 1
def zlC (w : zW) (n : Nat) : List (Nat × zV) → List (Nat × Value) → Prop
  | [], [] => True
  | x :: xs, v :: vs => (x.1 = v.1 ∧ zrv w n x.2 v.2) ∧ zlC w n xs vs
  | _, _ => False
def zlR (w : zW) (n nL : Nat) (la : List (Nat × zV)) (ls : Array Slot) : Prop := ∃ lc, lv_has ls nL lc ∧ zlC w n la lc
def zget (i : Nat) : List (Nat × zV) → Option zV
  | [] => none
  | q :: r => if q.1 = i then some q.2 else zget i r
def zst1 (i : Nat) (v : zV) (la : List (Nat × zV)) : List (Nat × zV) := (i, v) :: la.filter (fun q => !(q.1 == i) && !(q.1 + 1 == i && zcat q.2 == 2))
def zst2 (i : Nat) (v : zV) (la : List (Nat × zV)) : List (Nat × zV) := (i, v) :: la.filter (fun q => !(q.1 == i) && (!(q.1 == i + 1) && !(q.1 + 1 == i && zcat q.2 == 2)))
theorem zrv_cat {w : zW} {n : Nat} {x : zV} {v : Value} (h : zrv w n x v) : v.category = zcat x := by
  rcases x with x | x | x
  · obtain ⟨i, rfl, -⟩ := h; rfl
  · obtain ⟨i, rfl, -⟩ := h; rfl
  · rcases h with ⟨-, rfl⟩ | ⟨k, -, -, rfl⟩ <;> rfl
theorem zrv_mono {w : zW} {n n' : Nat} (hn : n ≤ n') {x : zV} {v : Value} (h : zrv w n x v) : zrv w n' x v := by
  rcases x with x | x | x
  · exact h
  · exact h
  · rcases h with h | ⟨k, h1, h2, h3⟩
    · exact Or.inl h
    · exact Or.inr ⟨k, h1, by omega, h3⟩
theorem zsR_mono {w : zW} {n n' : Nat} (hn : n ≤ n') : ∀ {xs : List zV} {vs : List Value}, zsR w n xs vs → zsR w n' xs vs
  | [], [], _ => trivial
  | [], _ :: _, h => h.elim
  | _ :: _, [], h => h.elim
  | _ :: _, _ :: _, h => ⟨zrv_mono hn h.1, zsR_mono hn h.2⟩
theorem zlC_mono {w : zW} {n n' : Nat} (hn : n ≤ n') : ∀ {xs : List (Nat × zV)} {vs : List (Nat × Value)}, zlC w n xs vs → zlC w n' xs vs
  | [], [], _ => trivial
  | [], _ :: _, h => h.elim
  | _ :: _, [], h => h.elim
  | _ :: _, _ :: _, h => ⟨⟨h.1.1, zrv_mono hn h.1.2⟩, zlC_mono hn h.2⟩
theorem zlR_mono {w : zW} {n n' nL : Nat} (hn : n ≤ n') {la : List (Nat × zV)} {ls : Array Slot} (h : zlR w n nL la ls) : zlR w n' nL la ls := by
  obtain ⟨lc, h1, h2⟩ := h
  exact ⟨lc, h1, zlC_mono hn h2⟩
theorem zlR_size {w : zW} {n nL : Nat} {la : List (Nat × zV)} {ls : Array Slot} (h : zlR w n nL la ls) : ls.size = nL := by
  obtain ⟨lc, h1, -⟩ := h
  exact h1.1
theorem zlC_get {w : zW} {n i : Nat} {x : zV} : ∀ {la : List (Nat × zV)} {lc : List (Nat × Value)}, zlC w n la lc → zget i la = some x → ∃ v, (i, v) ∈ lc ∧ zrv w n x v
  | [], [], _, h => by cases h
  | [], _ :: _, h, _ => h.elim
  | _ :: _, [], h, _ => h.elim
  | q :: la, r :: lc, h, hg => by
    unfold zget at hg
    split at hg
    · rename_i e
      cases hg
      refine ⟨r.2, ?_, h.1.2⟩
      rw [← e, h.1.1]
      exact List.mem_cons_self
    · obtain ⟨v, h1, h2⟩ := zlC_get h.2 hg
      exact ⟨v, List.mem_cons_of_mem _ h1, h2⟩
theorem zlR_get {w : zW} {n nL i : Nat} {x : zV} {la : List (Nat × zV)} {ls : Array Slot} (h : zlR w n nL la ls) (hg : zget i la = some x) : ∃ v, ls[i]? = some (.val v) ∧ zrv w n x v := by
  obtain ⟨lc, h1, h2⟩ := h
  obtain ⟨v, h3, h4⟩ := zlC_get h2 hg
  exact ⟨v, h1.2.2 _ h3, h4⟩
theorem zlC_filter {w : zW} {n : Nat} (f : Nat → Nat → Bool) : ∀ {la : List (Nat × zV)} {lc : List (Nat × Value)}, zlC w n la lc → zlC w n (la.filter (fun q => f q.1 (zcat q.2))) (lc.filter (fun q => f q.1 q.2.category))
  | [], [], _ => trivial
  | [], _ :: _, h => h.elim
  | _ :: _, [], h => h.elim
  | q :: la, r :: lc, h => by
    have ih := zlC_filter f h.2
    have e : f r.1 r.2.category = f q.1 (zcat q.2) := by rw [zrv_cat h.1.2, h.1.1]
    rw [List.filter_cons, List.filter_cons, e]
    split
    · exact ⟨h.1, ih⟩
    · exact ih
theorem zlR_of {w : zW} {n nL : Nat} {la : List (Nat × zV)} {ls : Array Slot} {lc : List (Nat × Value)} (h1 : lv_has ls nL lc) (h2 : zlC w n la lc) : zlR w n nL la ls := ⟨lc, h1, h2⟩
theorem zlC_st1 {w : zW} {n i : Nat} {x : zV} {v : Value} {la : List (Nat × zV)} {lc : List (Nat × Value)} (h : zlC w n la lc) (hv : zrv w n x v) : zlC w n (zst1 i x la) ((i, v) :: lc.filter (fun q => !(q.1 == i) && !(q.1 + 1 == i && q.2.category == 2))) :=
  ⟨⟨rfl, hv⟩, zlC_filter (fun a b => !(a == i) && !(a + 1 == i && b == 2)) h⟩
theorem zlC_st2 {w : zW} {n i : Nat} {x : zV} {v : Value} {la : List (Nat × zV)} {lc : List (Nat × Value)} (h : zlC w n la lc) (hv : zrv w n x v) : zlC w n (zst2 i x la) ((i, v) :: lc.filter (fun q => !(q.1 == i) && (!(q.1 == i + 1) && !(q.1 + 1 == i && q.2.category == 2)))) :=
  ⟨⟨rfl, hv⟩, zlC_filter (fun a b => !(a == i) && (!(a == i + 1) && !(a + 1 == i && b == 2))) h⟩
/-- fewer locals, or in another order -/
def zsub (la : List (Nat × zV)) : List (Nat × zV) → Prop
  | [] => True
  | q :: r => zget q.1 la = some q.2 ∧ zsub la r
theorem zlC_sub {w : zW} {n : Nat} {la : List (Nat × zV)} {ls : Array Slot} {nL : Nat} (h : zlR w n nL la ls) : ∀ {lb : List (Nat × zV)}, zsub la lb → ∃ lc, zlC w n lb lc ∧ ∀ q ∈ lc, ls[q.1]? = some (.val q.2)
  | [], _ => ⟨[], trivial, fun q hq => by cases hq⟩
  | q :: lb, hb => by
    obtain ⟨v, h1, h2⟩ := zlR_get h hb.1
    obtain ⟨lc, h3, h4⟩ := zlC_sub h hb.2
    refine ⟨(q.1, v) :: lc, ⟨⟨rfl, h2⟩, h3⟩, fun r hr => ?_⟩
    rcases List.mem_cons.mp hr with rfl | hr
    · exact h1
    · exact h4 r hr
theorem zlR_sub {w : zW} {n nL : Nat} {la lb : List (Nat × zV)} {ls : Array Slot} (h : zlR w n nL la ls) (hb : zsub la lb) : zlR w n nL lb ls := by
  obtain ⟨lc, h3, h4⟩ := zlC_sub h hb
  obtain ⟨l0, h1, -⟩ := h
  exact ⟨lc, ⟨h1.1, h1.2.1, h4⟩, h3⟩
/-! ### shapes: of each cell its kind (0 .. 11 the classes, 20 ints, 21 longs, 22 booleans, 23 Shelf[], 24 Paper[], 25 Law[], 26 int[][]; 27 the script) and its size -/
def zty : Nat → Nat → FieldType
  | 0 => tyX0 | 1 => tyX1 | 2 => tyX2 | 3 => tyX3 | 4 => tyX4 | 5 => tyX5 | 6 => tyX6 | 7 => tyX7 | 8 => tyX8 | 9 => tyX9 | 10 => tyX10 | _ => tyX11
def ztg : FieldType → Nat
  | .long => 1
  | .object _ => 2
  | .array _ => 2
  | _ => 0
def zmk (tg : Nat) (x : Int) : zV := match tg with
  | 0 => .inl x
  | 1 => .inr (.inl x)
  | _ => .inr (.inr x)
def zat (kd : Nat) : FieldType := match kd with
  | 20 => .int | 21 => .long | 22 => .boolean | 23 => .object RX8 | 24 => .object RX6 | 25 => .object RX4 | _ => .array .int
def znF (kd : Nat) : Nat := match vwCl[kd]? with
  | some q => q.2.2
  | none => 0
def zcR (w : zW) (n : Nat) (sh : Nat × Nat) (row : Int → Int) (cell : Cell) : Prop :=
  cell.vm = .none ∧ (sh.1 < 12 → cell.cls = w.2.2.1.1 sh.1 ∧ ∀ j : Nat, j < znF sh.1 → ∃ v, cell.slots[w.2.2.1.2 sh.1 j]? = some v ∧ zrv w n (zmk (ztg (zty sh.1 j)) (row j)) v) ∧
  (20 ≤ sh.1 → cell.cls = w.2.2.2.1 sh.1 ∧ cell.slots.size = sh.2 ∧ ∀ j : Nat, j < sh.2 → ∃ v, cell.slots[j]? = some v ∧ zrv w n (zmk (ztg (zat sh.1)) (row j)) v)
theorem zcR_mono {w : zW} {n n' : Nat} (hn : n ≤ n') {sh : Nat × Nat} {row : Int → Int} {cell : Cell} (h : zcR w n sh row cell) : zcR w n' sh row cell := by
  obtain ⟨h1, h2, h3⟩ := h
  refine ⟨h1, fun hk => ?_, fun hk => ?_⟩
  · obtain ⟨a, b⟩ := h2 hk
    refine ⟨a, fun j hj => ?_⟩
    obtain ⟨v, c, d⟩ := b j hj
    exact ⟨v, c, zrv_mono hn d⟩
  · obtain ⟨a, a2, b⟩ := h3 hk
    refine ⟨a, a2, fun j hj => ?_⟩
    obtain ⟨v, c, d⟩ := b j hj
    exact ⟨v, c, zrv_mono hn d⟩
def zshp (k : Nat) : Nat × Nat := zSHL.getD k (99, 0)
def zSV (k j : Nat) : Int := (zSVL.getD k []).getD j 0
def zST (k : Nat) : String × String := zSTL.getD k ("", "")
def zsz (k : Nat) : Nat := if (zshp k).1 < 12 then znF (zshp k).1 else (zshp k).2
/-- slots of the first n cells made -/
def zps : Nat → Nat
  | 0 => 0
  | n + 1 => zps n + zsz (5 + n)
theorem zps_mono : ∀ {a b : Nat}, a ≤ b → zps a ≤ zps b
  | a, 0, h => by
    have : a = 0 := by omega
    subst this
    exact Nat.le_refl _
  | a, b + 1, h => by
    by_cases e : a = b + 1
    · subst e; exact Nat.le_refl _
    · have := zps_mono (a := a) (b := b) (by omega)
      show zps a ≤ zps b + zsz (5 + b)
      omega
/-- the words that stay, whatever the tables learn; and those others that a walk asks for -/
def zwt : List Cond := lw_tbl.filter goodWord
def zxw : List Cond := [.arrayOver (.object RX8), .arrayOver (.object RX6), .arrayOver (.object RX4), .arrayOver (.array .int)]
def zxn : List (String × Nat × MethodName × String) := [(RX10, 9, yX5_init, RX10), (RX10, 18, yX2_init, RX10), (RX10, 25, yX9_init, RX10), (RX3, 30, yX4_init, RX10), (RX1, 28, yX6_init, RX10), (RX10, 48, yX0_init, RX10), (RX10, 59, yX8_init, RX10)]
theorem zgw {z : Cond} (h : (z.onTables && z.keeps) = true ∨ ∃ ty, z = .arrayClass ty) : goodWord z = true := by
  rcases h with h | ⟨ty, rfl⟩
  · cases z <;> first | exact h | rfl
  · rfl
theorem zmem {z : Cond} (h : z ∈ lw_tbl) (g : goodWord z = true) : z ∈ zwt := List.mem_filter.mpr ⟨h, g⟩
theorem zgood : GoodIn zwt zwt := fun z hz => ⟨hz, good_of_word (List.mem_filter.mp hz).2⟩
def ztys (w : zW) : List (ClassId × FieldType) := [(w.2.2.2.1 20, zat 20), (w.2.2.2.1 21, zat 21), (w.2.2.2.1 22, zat 22), (w.2.2.2.1 23, zat 23), (w.2.2.2.1 24, zat 24), (w.2.2.2.1 25, zat 25), (w.2.2.2.1 26, zat 26)]
def zOld (w : zW) (U : State) : Prop := ∀ k : Nat, 1 ≤ k → k ≤ 4 → ∃ cell, w.2.2.2.2[w.2.1 k]? = some cell ∧ U.isArrayOf cell .int ∧ cell.vm ≠ .unknown ∧ ((zshp k).2 ≤ cell.slots.size ∧ cell.slots.size.toInt32 = Int32.ofNat (zshp k).2) ∧ ∀ j : Nat, j < (zshp k).2 → ∃ i : Int32, cell.slots[j]? = some (.int i) ∧ i.toInt = zSV k j
def zKn (w : zW) (U : State) : Prop := w.2.2.2.2.size = w.1 ∧ va_K w.2.2.1 vwCl (ztys w) U ∧ zOld w U ∧ (∀ k : Nat, 1 ≤ k → k ≤ 4 → va_Z (zST k).1 (zST k).2 "[I" (.ref (w.2.1 k)) (fun q => w.1 ≤ q) U w.2.2.2.2) ∧ (∀ z ∈ zxw, z.before #[] U = true) ∧ ∀ q ∈ zxn, va_Nw (.methodLinkNest q.1 q.2.1 q.2.2.1 q.2.2.2) U
theorem zAOA_moved {ft : FieldType} {u U : State} (hvm : u.vm.Alike U.vm) (h : (Cond.arrayOver (.array ft)).before #[] u = true) : (Cond.arrayOver (.array ft)).before #[] U = true := by
  obtain ⟨comp, c, k, h1, h2, h3, h4, h5⟩ := arrayOverA_spec h
  obtain ⟨k', hk', he⟩ := hvm.2.2 _ _ h3
  have hi : (U.vm.classes.findIdx? fun (x : Class) => match x.kind with | .array component _ => component == comp | _ => false) = some c := by
    have e1 := va_idx_bare U.vm comp
    have e2 := va_idx_bare u.vm comp
    first | rw [hvm.bare_eq] at e1 | rw [← hvm.bare_eq] at e1
    exact e1.symm.trans (e2.trans h2)
  have hkind : k'.kind = .array comp (.array ft) := by rw [he]; exact h4
  have f1 : U.vm.findClass (FieldType.array ft).toString = some comp := by rw [hvm.findClass]; exact h1
  have f2 : U.vm.findClass ("[" ++ (FieldType.array ft).toString) = some c := by rw [hvm.findClass]; exact h5
  unfold Cond.before Cond.holds
  simp only [Cond.value]
  rw [f1, Option.bind_some]
  refine (congrArg (fun o : Option Nat => (o.bind (fun c => (U.vm.classes[c]?).map fun (k : Class) => match k.kind with | .array _ ty => decide (ty = FieldType.array ft) && decide (U.vm.findClass ("[" ++ (FieldType.array ft).toString) = some c) | _ => false) == some true)) hi).trans ?_
  simp [hk', hkind, f2]
theorem zKn.moved {w : zW} {s U : State} (hW : s.WarmedH U.vm) (h : zKn w s) : zKn w U := by
  have hvm := hW.alike
  refine ⟨h.1, h.2.1.moved hvm, fun k h1 h2 => ?_, fun k h1 h2 => (h.2.2.2.1 k h1 h2).moved hvm, fun z hz => ?_, fun q hq => (h.2.2.2.2.2 q hq).warmM hW⟩
  · obtain ⟨cell, a, b, c⟩ := h.2.2.1 k h1 h2
    exact ⟨cell, a, State.isArrayOf_alike hvm b, c⟩
  · have h0 := h.2.2.2.2.1 z hz
    simp only [zxw, List.mem_cons, List.not_mem_nil, or_false] at hz
    rcases hz with rfl | rfl | rfl | rfl
    · exact va_AO.moved hvm h0
    · exact va_AO.moved hvm h0
    · exact va_AO.moved hvm h0
    · exact zAOA_moved hvm h0
theorem zKn.same {w : zW} {u U : State} (hv : u.vm = U.vm) (h : zKn w u) : zKn w U := by
  have hvm : u.vm.Alike U.vm := by rw [hv]; exact Vm.Alike.refl _
  refine ⟨h.1, h.2.1.moved hvm, fun k h1 h2 => ?_, fun k h1 h2 => (h.2.2.2.1 k h1 h2).moved hvm, fun z hz => ?_, fun q hq => (h.2.2.2.2.2 q hq).same rfl hv⟩
  · obtain ⟨cell, a, b, c⟩ := h.2.2.1 k h1 h2
    exact ⟨cell, a, State.isArrayOf_alike hvm b, c⟩
  · have h0 := h.2.2.2.2.1 z hz
    simp only [zxw, List.mem_cons, List.not_mem_nil, or_false] at hz
    rcases hz with rfl | rfl | rfl | rfl
    · exact va_AO.moved hvm h0
    · exact va_AO.moved hvm h0
    · exact va_AO.moved hvm h0
    · exact zAOA_moved hvm h0
def zRep (w : zW) (μ : zMem) (H : Heap) : Prop := H.size = w.1 + znc μ ∧ (∀ q : Nat, q < w.1 → H[q]? = w.2.2.2.2[q]?) ∧
  (∀ k : Nat, k < znc μ → ∃ cell, H[w.1 + k]? = some cell ∧ zcR w (znc μ) (zshp (5 + k)) (μ ((5 + k : Nat) : Int)) cell) ∧
  ∀ k j : Nat, 1 ≤ k → k ≤ 4 → j < (zshp k).2 → μ (k : Int) (j : Int) = zSV k j
/-! ### what a method's walk stands on, and the judgement: from here, with these locals and this stack, over this memory, the walk ends as t says -/
def zret (w : zW) (rk n : Nat) (r : Int) : Option Value → Prop := match rk with
  | 0 => fun v => v = none
  | 1 => fun v => ∃ x, v = some x ∧ zrv w n (zI r) x
  | 2 => fun v => ∃ x, v = some x ∧ zrv w n (zL r) x
  | _ => fun v => ∃ x, v = some x ∧ zrv w n (zR r) x
def zrt (rk : Nat) (t : Option FieldType) : Prop := match rk with
  | 0 => t = none
  | 1 => t = some .int ∨ t = some .boolean
  | 2 => t = some .long
  | _ => ∃ n, t = some (.object n)
def zCx (w : zW) (own : String) (cc : ByteArray) (nL : Nat) (ret : Option FieldType) (D : Nat) (R : Room) (p : Program) (s : State) (m : MethodId) (args : Array Value) (meth : Method) (c : Code) : Prop :=
  p.tables.exec = Jvm.exec ∧ c.code = cc ∧ c.maxLocals = nL ∧ s.vm.findClass own = some m.cls ∧ (∀ z ∈ zwt, z.before args s = true) ∧ meth.sig.returnType = ret ∧ meth.locks = false ∧ zKn w s ∧ D ≤ R.frames ∧ 60 * D ≤ R.locals
def zSim (G : Prop) (p : Program) (l : Launch) (e : Env) (R : Room) (s : State) (m : MethodId) (args : Array Value) (below : List Frame) (meth : Method) (c : Code) (w : zW) (nL n0 : Nat) (Q : Int → zMem → State → Prop) (pc : Nat) (la : List (Nat × zV)) (st : List zV) (μ : zMem) (t : zRs) : Prop :=
  ∀ (r : Int) (μ' : zMem), t = some (r, μ') → znc μ ≤ znc μ' ∧ (G → ∀ (H : Heap) (locs : List Loc) (ls : Array Slot) (sc : List Value), zRep w μ H → zlR w (znc μ) nL la ls → zsR w (znc μ) st sc → (∀ q ∈ locs, w.1 ≤ q.base) → n0 ≤ znc μ → znc μ' - n0 ≤ R.cells → zps (znc μ') - zps n0 ≤ R.slots →
    W p l e R s m args below meth c H locs (znc μ - n0) (zps (znc μ) - zps n0) (Q r μ') (F0 m pc ls sc))
/-- how a method ends -/
def zQ (w : zW) (rk : Nat) (r : Int) (μ' : zMem) : Array Value → State → Outcome → State → Prop := fun _ _ o t => ∃ v, o = .returned v ∧ zret w rk (znc μ') r v ∧ zRep w μ' t.heap
def zM (w : zW) (rk n0 : Nat) (below : List Frame) (args : Array Value) (s : State) (r : Int) (μ' : zMem) : State → Prop := MQ below (zQ w rk r μ') args s (znc μ' - n0) (zps (znc μ') - zps n0) (fun q => w.1 ≤ q)
/-- a method's contract: where t has an answer, the machine gives it -/
def zSpc (l : Launch) (w : zW) (d : Nat) (y : MethodName) (b : ByteArray) (nL : Nat) (ret : Option FieldType) (rk : Nat) (As : List zV) (μ : zMem) (t : zRs) : Prop :=
  ∀ (r : Int) (μ' : zMem), t = some (r, μ') → (Program → Env → Room → State → MethodId → Array Value → List Frame → Method → Code → znc μ ≤ znc μ') ∧ ∀ Ac : List Value, zsR w (znc μ) As Ac →
    Met l y (.code y b nL ret :: zwt) { frames := d, cells := znc μ' - znc μ, slots := zps (znc μ') - zps (znc μ), locals := 60 * d } (va_Pc Ac (fun U => zRep w μ U.heap ∧ zKn w U)) (zQ w rk r μ') (znc μ' - znc μ) (zps (znc μ') - zps (znc μ)) (fun q => w.1 ≤ q)
/-! ### the words that shallow programs are made of -/
def zcall (o : zRs) (k : Int → zMem → zRs) : zRs := match o with
  | none => none
  | some q => k q.1 q.2
def zisC (ci : Nat) (a : Int) : Bool := decide (5 ≤ a) && ((zshp a.toNat).1 == ci)
def zisA (kd : Nat) (a j : Int) : Bool := decide (1 ≤ a) && ((zshp a.toNat).1 == kd) && decide (0 ≤ j) && decide (j < ((zshp a.toNat).2 : Int))
def zisW (kd : Nat) (a j : Int) : Bool := decide (5 ≤ a) && zisA kd a j
def zgf (ci j : Nat) (a : Int) (μ : zMem) (k : Int → zRs) : zRs := if zisC ci a then k (μ a j) else none
def zpf (ci j : Nat) (a v : Int) (μ : zMem) (k : zMem → zRs) : zRs := if zisC ci a then k (zupd μ a j v) else none
def zald (kd : Nat) (a j : Int) (μ : zMem) (k : Int → zRs) : zRs := if zisA kd a j then k (μ a j) else none
def zast (kd : Nat) (a j v : Int) (μ : zMem) (k : zMem → zRs) : zRs := if zisW kd a j then k (zupd μ a j v) else none
def zlen (kd : Nat) (a : Int) (k : Int → zRs) : zRs := if decide (1 ≤ a) && ((zshp a.toNat).1 == kd) then k ((zshp a.toNat).2 : Int) else none
def zbl (v : Int) (k : zRs) : zRs := if v = 0 ∨ v = 1 then k else none
def znz (v : Int) (k : zRs) : zRs := if v = 0 then none else k
def zvc (ci : Nat) (a : Int) (o : zRs) (k : Int → zMem → zRs) : zRs := if zisC ci a then zcall o k else none
def zjn {α : Type} (J : α) (body : α → zRs) : zRs := body J
def zlp {α : Type} (bot : α) (F : α → α) : Nat → α
  | 0 => bot
  | n + 1 => F (zlp bot F n)
def zdf (tg : Nat) : Int := match tg with
  | 2 => -1
  | _ => 0
/-- n cells more, with their places at first -/
def zal (μ : zMem) (n : Nat) : zMem := fun a j => if a = -1 ∧ j = 0 then ((znc μ + n : Nat) : Int) else if ((5 + znc μ : Nat) : Int) ≤ a ∧ a < ((5 + znc μ + n : Nat) : Int) then zdf (ztg (if (zshp a.toNat).1 < 12 then zty (zshp a.toNat).1 j.toNat else zat (zshp a.toNat).1)) else μ a j
def znew (ci : Nat) (μ : zMem) (k : Int → zMem → zRs) : zRs := if (zshp (5 + znc μ)).1 = ci then k ((5 + znc μ : Nat) : Int) (zal μ 1) else none
def znar (kd : Nat) (n : Int) (μ : zMem) (k : Int → zMem → zRs) : zRs := if zshp (5 + znc μ) = (kd, n.toNat) ∧ 0 ≤ n ∧ n ≤ 1000 then k ((5 + znc μ : Nat) : Int) (zal μ 1) else none
def zw32 (x : Int) : Int := (x + 2147483648) % 4294967296 - 2147483648
def zw64 (x : Int) : Int := (x + 9223372036854775808) % 18446744073709551616 - 9223372036854775808
def zw16 (x : Int) : Int := (x + 32768) % 65536 - 32768
def zw8 (x : Int) : Int := (x + 128) % 256 - 128
def zand (x y : Int) : Int := (Int32.ofInt x &&& Int32.ofInt y).toInt
def zor (x y : Int) : Int := (Int32.ofInt x ||| Int32.ofInt y).toInt
def zxor (x y : Int) : Int := (Int32.ofInt x ^^^ Int32.ofInt y).toInt
def zshl (x y : Int) : Int := (Int32.ofInt x <<< (Int32.ofInt y &&& 31)).toInt
def zshr (x y : Int) : Int := (Int32.ofInt x >>> (Int32.ofInt y &&& 31)).toInt
def zushr (x y : Int) : Int := ((Int32.ofInt x).toUInt32 >>> ((Int32.ofInt y).toUInt32 &&& Int32.toUInt32 31)).toInt32.toInt
def zlsh (x y : Int) : Int := (Int64.ofInt x <<< ((Int32.ofInt y).toInt64 &&& 63)).toInt
def zland (x y : Int) : Int := (Int64.ofInt x &&& Int64.ofInt y).toInt
def zlor (x y : Int) : Int := (Int64.ofInt x ||| Int64.ofInt y).toInt
def zcmp (x y : Int) : Int := if x > y then 1 else if x = y then 0 else -1
