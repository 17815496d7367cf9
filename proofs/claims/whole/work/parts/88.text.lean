/-! ===== the text of a writer: one pure parser for both sides, and what codes work out ===== -/
abbrev zRp : Type := Nat ⊕ (Nat × List Int)
def zpB (x : zRp) (k : Nat → List Int → zRp) : zRp := match x with
  | .inl f => .inl f
  | .inr q => k q.1 q.2
set_option maxHeartbeats 400000 in
theorem zpB_l {f : Nat} {k : Nat → List Int → zRp} : zpB (.inl f) k = .inl f := rfl
set_option maxHeartbeats 400000 in
theorem zpB_r {a : Nat} {cs : List Int} {k : Nat → List Int → zRp} : zpB (.inr (a, cs)) k = k a cs := rfl
def zgn (T : Nat → Int) (n a : Nat) : Int := if a < n then T a else -1
set_option maxHeartbeats 400000 in
theorem zgn_i {T : Nat → Int} {n a : Nat} (h : a < n) : zgn T n a = T a := if_pos h
set_option maxHeartbeats 400000 in
theorem zgn_o {T : Nat → Int} {n a : Nat} (h : ¬ a < n) : zgn T n a = -1 := if_neg h
/-- an operator and what it joins, again and again -/
def zlL (sub : Nat → zRp) (sg : Int → Bool) (G : Nat → Int) : Nat → Nat → zRp
  | 0, a => .inr (a, [])
  | k + 1, a => if sg (G a) = true then zpB (sub (a + 1)) (fun a' cs => zpB (zlL sub sg G k a') (fun a'' ds => .inr (a'', cs ++ (10000 + G a) :: ds))) else .inr (a, [])
def zch (sub : Nat → zRp) (sg : Int → Bool) (G : Nat → Int) (a : Nat) : zRp := zpB (sub a) (fun a' cs => zpB (zlL sub sg G 120 a') (fun a'' ds => .inr (a'', cs ++ ds)))
def zcm (sub : Nat → zRp) (sg : Int → Bool) (G : Nat → Int) (a : Nat) : zRp := zpB (sub a) (fun a' cs => if sg (G a') = true then zpB (sub (a' + 1)) (fun a'' ds => .inr (a'', cs ++ (ds ++ [10000 + G a']))) else .inr (a', cs))
def zdig (g : Int) : Bool := decide (48 ≤ g ∧ g ≤ 57)
def znum (G : Nat → Int) : Nat → Nat → Int → Nat × Int
  | 0, a, v => (a, v)
  | k + 1, a, v => if zdig (G a) = true then znum G k (a + 1) (v * 10 + G a - 48) else (a, v)
def znk (s : Int) : Int := if s = 105 then 4 else if s = 107 then 1 else if s = 108 then 3 else if s = 109 then 5 else if s = 110 then 7 else if s = 111 then 2 else if s = 115 then 6 else if s = 119 then 0 else -1
def zod (d : Nat) (E O : Nat → zRp) (G : Nat → Int) (a : Nat) : zRp :=
  if zdig (G a) = true then .inr ((znum G 4 a 0).1, [(znum G 4 a 0).2])
  else if 0 ≤ znk (G a) then .inr (a + 1, [10000 + G a])
  else if d = 0 then .inl a
  else if G a = 40 then zpB (E (a + 1)) (fun a' cs => if G a' = 41 then .inr (a' + 1, cs) else .inl a')
  else if G a = 33 then zpB (O (a + 1)) (fun a' cs => .inr (a', cs ++ [10033]))
  else if G a = 45 then zpB (O (a + 1)) (fun a' cs => .inr (a', cs ++ [10126]))
  else .inl a
def zgM (g : Int) : Bool := decide (g = 42 ∨ g = 47 ∨ g = 37)
def zgA (g : Int) : Bool := decide (g = 43 ∨ g = 45)
def zgC (g : Int) : Bool := decide (g = 60 ∨ g = 61 ∨ g = 62)
def zgD (g : Int) : Bool := decide (g = 38)
def zgV (g : Int) : Bool := decide (g = 124)
def zpP (O : Nat → zRp) (G : Nat → Int) : Nat → zRp := zch O zgM G
def zpU (O : Nat → zRp) (G : Nat → Int) : Nat → zRp := zch (zpP O G) zgA G
def zpK (O : Nat → zRp) (G : Nat → Int) : Nat → zRp := zcm (zpU O G) zgC G
def zpD (O : Nat → zRp) (G : Nat → Int) : Nat → zRp := zch (zpK O G) zgD G
def zpE (O : Nat → zRp) (G : Nat → Int) : Nat → zRp := zch (zpD O G) zgV G
def zpO (G : Nat → Int) : Nat → Nat → zRp
  | 0 => zod 0 (fun a => .inl a) (fun a => .inl a) G
  | d + 1 => zod (d + 1) (zpE (zpO G d) G) (zpO G d) G
/-! ### what such a parser answers -/
def zgd (n : Nat) (f : Nat → zRp) : Prop := ∀ a, a ≤ n → (∀ g, f a = .inl g → g ≤ n) ∧ ∀ a' cs, f a = .inr (a', cs) → cs.length + a ≤ a' ∧ a' ≤ n ∧ ∀ c ∈ cs, c ≠ 10059 ∧ c ≠ 10063 ∧ c < 20000
def zsgok (sg : Int → Bool) : Prop := ∀ g, sg g = true → 0 ≤ g ∧ g ≠ 59 ∧ g ≠ 63 ∧ g < 1000
set_option maxHeartbeats 400000 in
theorem zgn_lt {T : Nat → Int} {n a : Nat} (h : 0 ≤ zgn T n a) : a < n := by
  by_cases q : a < n
  · exact q
  · rw [zgn_o q] at h; omega
set_option maxHeartbeats 400000 in
theorem zgd_L {T : Nat → Int} {n : Nat} {sub : Nat → zRp} {sg : Int → Bool} (hs : zgd n sub) (hg : zsgok sg) : ∀ k, zgd n (zlL sub sg (zgn T n) k)
  | 0 => fun a ha => ⟨fun g h => (by cases h), fun a' cs h => (by cases h; exact ⟨by simp, ha, fun c hc => absurd hc (by simp)⟩)⟩
  | k + 1 => fun a ha => by
    have ih := zgd_L (T := T) hs hg k
    unfold zlL
    by_cases c : sg (zgn T n a) = true
    · rw [if_pos c]
      obtain ⟨g0, g1, g2, g3⟩ := hg _ c
      have hlt := zgn_lt g0
      obtain ⟨s1, s2⟩ := hs (a + 1) (by omega)
      cases e : sub (a + 1) with
      | inl g => exact ⟨fun g' h => (by cases h; exact s1 g e), fun a' cs h => (by cases h)⟩
      | inr q =>
        obtain ⟨a', cs⟩ := q
        obtain ⟨t1, t2, t3⟩ := s2 a' cs e
        obtain ⟨i1, i2⟩ := ih a' t2
        rw [zpB_r]
        cases e2 : zlL sub sg (zgn T n) k a' with
        | inl g => exact ⟨fun g' h => (by cases h; exact i1 g e2), fun a' cs h => (by cases h)⟩
        | inr q =>
          obtain ⟨a'', ds⟩ := q
          obtain ⟨w1, w2, w3⟩ := i2 a'' ds e2
          rw [zpB_r]
          refine ⟨fun g' h => (by cases h), fun b es h => ?_⟩
          cases h
          refine ⟨by rw [List.length_append, List.length_cons]; omega, w2, fun c hc => ?_⟩
          rcases List.mem_append.mp hc with q | q
          · exact t3 c q
          · rcases List.mem_cons.mp q with rfl | q
            · exact ⟨by omega, by omega, by omega⟩
            · exact w3 c q
    · rw [if_neg c]
      exact ⟨fun g h => (by cases h), fun a' cs h => (by cases h; exact ⟨by simp, ha, fun c hc => absurd hc (by simp)⟩)⟩
set_option maxHeartbeats 400000 in
theorem zgd_ch {T : Nat → Int} {n : Nat} {sub : Nat → zRp} {sg : Int → Bool} (hs : zgd n sub) (hg : zsgok sg) : zgd n (zch sub sg (zgn T n)) := fun a ha => by
  obtain ⟨s1, s2⟩ := hs a ha
  unfold zch
  cases e : sub a with
  | inl g => exact ⟨fun g' h => (by cases h; exact s1 g e), fun a' cs h => (by cases h)⟩
  | inr q =>
    obtain ⟨a', cs⟩ := q
    obtain ⟨t1, t2, t3⟩ := s2 a' cs e
    obtain ⟨i1, i2⟩ := zgd_L (T := T) hs hg 120 a' t2
    rw [zpB_r]
    cases e2 : zlL sub sg (zgn T n) 120 a' with
    | inl g => exact ⟨fun g' h => (by cases h; exact i1 g e2), fun a' cs h => (by cases h)⟩
    | inr q =>
      obtain ⟨a'', ds⟩ := q
      obtain ⟨w1, w2, w3⟩ := i2 a'' ds e2
      rw [zpB_r]
      refine ⟨fun g' h => (by cases h), fun b es h => ?_⟩
      cases h
      refine ⟨by rw [List.length_append]; omega, w2, fun c hc => ?_⟩
      rcases List.mem_append.mp hc with q | q
      · exact t3 c q
      · exact w3 c q
set_option maxHeartbeats 400000 in
theorem zgd_cm {T : Nat → Int} {n : Nat} {sub : Nat → zRp} {sg : Int → Bool} (hs : zgd n sub) (hg : zsgok sg) : zgd n (zcm sub sg (zgn T n)) := fun a ha => by
  obtain ⟨s1, s2⟩ := hs a ha
  unfold zcm
  cases e : sub a with
  | inl g => exact ⟨fun g' h => (by cases h; exact s1 g e), fun a' cs h => (by cases h)⟩
  | inr q =>
    obtain ⟨a', cs⟩ := q
    obtain ⟨t1, t2, t3⟩ := s2 a' cs e
    rw [zpB_r]
    by_cases c : sg (zgn T n a') = true
    · rw [if_pos c]
      obtain ⟨g0, g1, g2, g3⟩ := hg _ c
      have hlt := zgn_lt g0
      obtain ⟨i1, i2⟩ := hs (a' + 1) (by omega)
      cases e2 : sub (a' + 1) with
      | inl g => exact ⟨fun g' h => (by cases h; exact i1 g e2), fun a' cs h => (by cases h)⟩
      | inr q =>
        obtain ⟨a'', ds⟩ := q
        obtain ⟨w1, w2, w3⟩ := i2 a'' ds e2
        rw [zpB_r]
        refine ⟨fun g' h => (by cases h), fun b es h => ?_⟩
        cases h
        refine ⟨by rw [List.length_append, List.length_append]; simp; omega, w2, fun c hc => ?_⟩
        rcases List.mem_append.mp hc with q | q
        · exact t3 c q
        · rcases List.mem_append.mp q with q | q
          · exact w3 c q
          · rw [List.mem_singleton.mp q]
            exact ⟨by omega, by omega, by omega⟩
    · rw [if_neg c]
      refine ⟨fun g' h => (by cases h), fun b es h => ?_⟩
      cases h
      exact ⟨t1, t2, t3⟩
set_option maxHeartbeats 400000 in
theorem znum_in {T : Nat → Int} {n : Nat} : ∀ (k a : Nat) (v B : Int), a ≤ n → 0 ≤ v → v ≤ B → a ≤ (znum (zgn T n) k a v).1 ∧ (znum (zgn T n) k a v).1 ≤ n ∧ 0 ≤ (znum (zgn T n) k a v).2 ∧ (znum (zgn T n) k a v).2 + 1 ≤ (B + 1) * 10 ^ k
  | 0, a, v, B, ha, h0, h1 => ⟨Nat.le_refl _, ha, h0, by show v + 1 ≤ (B + 1) * 1; omega⟩
  | k + 1, a, v, B, ha, h0, h1 => by
    unfold znum
    by_cases c : zdig (zgn T n a) = true
    · rw [if_pos c]
      have hc : 48 ≤ zgn T n a ∧ zgn T n a ≤ 57 := of_decide_eq_true c
      have hlt := zgn_lt (T := T) (n := n) (a := a) (by omega)
      obtain ⟨i1, i2, i3, i4⟩ := znum_in (T := T) (n := n) k (a + 1) (v * 10 + zgn T n a - 48) (B * 10 + 9) (by omega) (by omega) (by omega)
      refine ⟨by omega, i2, i3, ?_⟩
      rw [Int.pow_succ, Int.mul_comm (10 ^ k) 10, ← Int.mul_assoc]
      rw [show (B + 1) * 10 = B * 10 + 9 + 1 by omega]
      exact i4
    · rw [if_neg c]
      refine ⟨Nat.le_refl _, ha, h0, ?_⟩
      have hp : (1 : Int) ≤ 10 ^ (k + 1) := by
        have : (0 : Int) < 10 ^ (k + 1) := Int.pow_pos (by decide)
        omega
      have := Int.mul_le_mul_of_nonneg_left hp (show (0 : Int) ≤ B + 1 by omega)
      show v + 1 ≤ (B + 1) * 10 ^ (k + 1)
      omega
set_option maxHeartbeats 400000 in
theorem znum_4 {T : Nat → Int} {n a : Nat} (h : zdig (zgn T n a) = true) : a + 1 ≤ (znum (zgn T n) 4 a 0).1 ∧ (znum (zgn T n) 4 a 0).1 ≤ n ∧ 0 ≤ (znum (zgn T n) 4 a 0).2 ∧ (znum (zgn T n) 4 a 0).2 < 10000 := by
  have hc : 48 ≤ zgn T n a ∧ zgn T n a ≤ 57 := of_decide_eq_true h
  have hlt := zgn_lt (T := T) (n := n) (a := a) (by omega)
  have e : znum (zgn T n) 4 a 0 = znum (zgn T n) 3 (a + 1) (0 * 10 + zgn T n a - 48) := by
    rw [znum, if_pos h]
  rw [e]
  obtain ⟨i1, i2, i3, i4⟩ := znum_in (T := T) (n := n) 3 (a + 1) (0 * 10 + zgn T n a - 48) 9 (by omega) (by omega) (by omega)
  refine ⟨i1, i2, i3, ?_⟩
  have : ((9 : Int) + 1) * 10 ^ 3 = 10000 := by decide
  omega
set_option maxHeartbeats 400000 in
theorem znk_in {s : Int} (h : 0 ≤ znk s) : 105 ≤ s ∧ s ≤ 119 := by
  unfold znk at h
  repeat (split at h; omega)
  omega
set_option maxHeartbeats 400000 in
theorem zgd_o {T : Nat → Int} {n d : Nat} {E O : Nat → zRp} (hE : d ≠ 0 → zgd n E) (hO : d ≠ 0 → zgd n O) : zgd n (zod d E O (zgn T n)) := fun a ha => by
  unfold zod
  by_cases c1 : zdig (zgn T n a) = true
  · rw [if_pos c1]
    obtain ⟨i1, i2, i3, i4⟩ := znum_4 c1
    refine ⟨fun g' h => (by cases h), fun b es h => ?_⟩
    cases h
    refine ⟨by simp; omega, i2, fun c hc => ?_⟩
    rw [List.mem_singleton.mp hc]
    exact ⟨by omega, by omega, by omega⟩
  rw [if_neg c1]
  by_cases c2 : 0 ≤ znk (zgn T n a)
  · rw [if_pos c2]
    have hk := znk_in c2
    have hlt := zgn_lt (T := T) (n := n) (a := a) (by omega)
    refine ⟨fun g' h => (by cases h), fun b es h => ?_⟩
    cases h
    refine ⟨by simp; omega, by omega, fun c hc => ?_⟩
    rw [List.mem_singleton.mp hc]
    exact ⟨by omega, by omega, by omega⟩
  rw [if_neg c2]
  by_cases c3 : d = 0
  · rw [if_pos c3]
    exact ⟨fun g' h => (by cases h; exact ha), fun b es h => (by cases h)⟩
  rw [if_neg c3]
  have un : ∀ v : Int, v ≠ 10059 ∧ v ≠ 10063 ∧ v < 20000 → 0 ≤ zgn T n a → (∀ g, zpB (O (a + 1)) (fun a' cs => .inr (a', cs ++ [v])) = .inl g → g ≤ n) ∧ ∀ a' cs, zpB (O (a + 1)) (fun a' cs => .inr (a', cs ++ [v])) = .inr (a', cs) → cs.length + a ≤ a' ∧ a' ≤ n ∧ ∀ c ∈ cs, c ≠ 10059 ∧ c ≠ 10063 ∧ c < 20000 := fun v hv hg => by
    have hlt := zgn_lt hg
    obtain ⟨s1, s2⟩ := hO c3 (a + 1) (by omega)
    cases e : O (a + 1) with
    | inl g => exact ⟨fun g' h => (by cases h; exact s1 g e), fun a' cs h => (by cases h)⟩
    | inr q =>
      obtain ⟨a', cs⟩ := q
      obtain ⟨t1, t2, t3⟩ := s2 a' cs e
      rw [zpB_r]
      refine ⟨fun g' h => (by cases h), fun b es h => ?_⟩
      cases h
      refine ⟨by rw [List.length_append]; simp; omega, t2, fun c hc => ?_⟩
      rcases List.mem_append.mp hc with q | q
      · exact t3 c q
      · rw [List.mem_singleton.mp q]
        exact hv
  by_cases c4 : zgn T n a = 40
  · rw [if_pos c4]
    have hlt := zgn_lt (T := T) (n := n) (a := a) (by omega)
    obtain ⟨s1, s2⟩ := hE c3 (a + 1) (by omega)
    cases e : E (a + 1) with
    | inl g => exact ⟨fun g' h => (by cases h; exact s1 g e), fun a' cs h => (by cases h)⟩
    | inr q =>
      obtain ⟨a', cs⟩ := q
      obtain ⟨t1, t2, t3⟩ := s2 a' cs e
      rw [zpB_r]
      by_cases c5 : zgn T n a' = 41
      · rw [if_pos c5]
        have hlt2 := zgn_lt (T := T) (n := n) (a := a') (by omega)
        refine ⟨fun g' h => (by cases h), fun b es h => ?_⟩
        cases h
        exact ⟨by omega, by omega, t3⟩
      · rw [if_neg c5]
        exact ⟨fun g' h => (by cases h; exact t2), fun b es h => (by cases h)⟩
  rw [if_neg c4]
  by_cases c5 : zgn T n a = 33
  · rw [if_pos c5]
    exact un 10033 (by decide) (by omega)
  rw [if_neg c5]
  by_cases c6 : zgn T n a = 45
  · rw [if_pos c6]
    exact un 10126 (by decide) (by omega)
  · rw [if_neg c6]
    exact ⟨fun g' h => (by cases h; exact ha), fun b es h => (by cases h)⟩
set_option maxHeartbeats 400000 in
theorem zokM : zsgok zgM := fun g h => by have : g = 42 ∨ g = 47 ∨ g = 37 := of_decide_eq_true h; omega
set_option maxHeartbeats 400000 in
theorem zokA : zsgok zgA := fun g h => by have : g = 43 ∨ g = 45 := of_decide_eq_true h; omega
set_option maxHeartbeats 400000 in
theorem zokC : zsgok zgC := fun g h => by have : g = 60 ∨ g = 61 ∨ g = 62 := of_decide_eq_true h; omega
set_option maxHeartbeats 400000 in
theorem zokD : zsgok zgD := fun g h => by have : g = 38 := of_decide_eq_true h; omega
set_option maxHeartbeats 400000 in
theorem zokV : zsgok zgV := fun g h => by have : g = 124 := of_decide_eq_true h; omega
set_option maxHeartbeats 400000 in
theorem zgd_P {T : Nat → Int} {n : Nat} {O : Nat → zRp} (h : zgd n O) : zgd n (zpP O (zgn T n)) := zgd_ch h zokM
set_option maxHeartbeats 400000 in
theorem zgd_S {T : Nat → Int} {n : Nat} {O : Nat → zRp} (h : zgd n O) : zgd n (zpU O (zgn T n)) := zgd_ch (zgd_P h) zokA
set_option maxHeartbeats 400000 in
theorem zgd_K {T : Nat → Int} {n : Nat} {O : Nat → zRp} (h : zgd n O) : zgd n (zpK O (zgn T n)) := zgd_cm (zgd_S h) zokC
set_option maxHeartbeats 400000 in
theorem zgd_D {T : Nat → Int} {n : Nat} {O : Nat → zRp} (h : zgd n O) : zgd n (zpD O (zgn T n)) := zgd_ch (zgd_K h) zokD
set_option maxHeartbeats 400000 in
theorem zgd_E {T : Nat → Int} {n : Nat} {O : Nat → zRp} (h : zgd n O) : zgd n (zpE O (zgn T n)) := zgd_ch (zgd_D h) zokV
set_option maxHeartbeats 400000 in
theorem zgd_O {T : Nat → Int} {n : Nat} : ∀ d, zgd n (zpO (zgn T n) d)
  | 0 => zgd_o (fun h => absurd rfl h) (fun h => absurd rfl h)
  | d + 1 => zgd_o (fun _ => zgd_E (zgd_O d)) (fun _ => zgd_O d)
/-! ### the stack of values -/
def zxp (v : Int) (S : List Int) : Option (List Int) := if S.length < 64 then some (v :: S) else none
def zxh (S : List Int) : Int := S.headD 0
def zjt (op l r : Int) : Int := if op = 37 then (if r = 0 then 0 else Int.tmod l r) else if op = 38 then (if l ≠ 0 ∧ r ≠ 0 then 1 else 0) else if op = 42 then zw32 (l * r) else if op = 43 then zw32 (l + r) else if op = 45 then zw32 (l - r) else if op = 47 then (if r = 0 then 0 else zw32 (Int.tdiv l r)) else if op = 60 then (if l < r then 1 else 0) else if op = 61 then (if l = r then 1 else 0) else if op = 62 then (if l > r then 1 else 0) else if op = 124 then (if l ≠ 0 ∨ r ≠ 0 then 1 else 0) else 0
def zx1 (nm : Int → Int) (c : Int) (S : List Int) : Option (List Int) :=
  if c < 10000 then zxp c S else if 0 ≤ znk (c - 10000) then zxp (nm (znk (c - 10000))) S
  else if c = 10033 then zxp (if zxh S = 0 then 1 else 0) S.tail else if c = 10126 then zxp (zw32 (-zxh S)) S.tail else zxp (zjt (c - 10000) (zxh S.tail) (zxh S)) S.tail.tail
def zex (nm : Int → Int) : List Int → List Int → Option (List Int)
  | [], S => some S
  | c :: cs, S => (zx1 nm c S).bind (zex nm cs)
set_option maxHeartbeats 400000 in
theorem zex_app {nm : Int → Int} : ∀ (cs ds S : List Int), zex nm (cs ++ ds) S = (zex nm cs S).bind (zex nm ds)
  | [], ds, S => rfl
  | c :: cs, ds, S => by
    show (zx1 nm c S).bind (zex nm (cs ++ ds)) = ((zx1 nm c S).bind (zex nm cs)).bind (zex nm ds)
    cases zx1 nm c S with
    | none => rfl
    | some S' => exact zex_app cs ds S'
set_option maxHeartbeats 400000 in
theorem zex_1 {nm : Int → Int} {c : Int} {S : List Int} : zex nm [c] S = zx1 nm c S := by
  show (zx1 nm c S).bind (zex nm []) = zx1 nm c S
  cases zx1 nm c S <;> rfl
def zvl (nm : Int → Int) (h : Nat) (cs : List Int) (v : Int) : Prop := ∀ S : List Int, S.length + h ≤ 64 → zex nm cs S = some (v :: S)
set_option maxHeartbeats 400000 in
theorem zx1_n {nm : Int → Int} {c : Int} {S : List Int} (h : c < 10000) (hs : S.length < 64) : zx1 nm c S = some (c :: S) := by
  unfold zx1 zxp
  rw [if_pos h, if_pos hs]
set_option maxHeartbeats 400000 in
theorem zx1_m {nm : Int → Int} {g : Int} {S : List Int} (h : 0 ≤ znk g) (hs : S.length < 64) : zx1 nm (10000 + g) S = some (nm (znk g) :: S) := by
  have hk := znk_in h
  unfold zx1 zxp
  rw [if_neg (by omega), show 10000 + g - 10000 = g by omega, if_pos h, if_pos hs]
set_option maxHeartbeats 400000 in
theorem zx1_33 {nm : Int → Int} {v : Int} {S : List Int} (hs : S.length < 64) : zx1 nm 10033 (v :: S) = some ((if v = 0 then 1 else 0) :: S) := by
  unfold zx1 zxp
  rw [if_neg (by decide), if_neg (by decide), if_pos rfl]
  exact if_pos hs
set_option maxHeartbeats 400000 in
theorem zx1_126 {nm : Int → Int} {v : Int} {S : List Int} (hs : S.length < 64) : zx1 nm 10126 (v :: S) = some (zw32 (-v) :: S) := by
  unfold zx1 zxp
  rw [if_neg (by decide), if_neg (by decide), if_neg (by decide), if_pos rfl]
  exact if_pos hs
set_option maxHeartbeats 400000 in
theorem zx1_2 {nm : Int → Int} {g v w : Int} {S : List Int} (h0 : 0 ≤ g) (h : znk g < 0) (h1 : g ≠ 33) (h2 : g ≠ 126) (hs : S.length < 64) : zx1 nm (10000 + g) (w :: v :: S) = some (zjt g v w :: S) := by
  unfold zx1 zxp
  rw [if_neg (by omega), show 10000 + g - 10000 = g by omega, if_neg (by omega), if_neg (by omega), if_neg (by omega)]
  exact if_pos hs
