/-! ===== sure ===== -/
/-- the writers' bits of the papers that have x -/
def zwb (H : Int → Int) (w : Int → Int) : Nat → Int
  | 0 => 0
  | n + 1 => if H n = 1 ∧ 0 ≤ w n then zor (zwb H w n) (zshl 1 (w n)) else zwb H w n
theorem zwb_t {H w : Int → Int} {n : Nat} (h : H n = 1 ∧ 0 ≤ w n) : zwb H w (n + 1) = zor (zwb H w n) (zshl 1 (w n)) := if_pos h
theorem zwb_f {H w : Int → Int} {n : Nat} (h : ¬ (H n = 1 ∧ 0 ≤ w n)) : zwb H w (n + 1) = zwb H w n := if_neg h
theorem zor_16 {x y : Int} {W : Nat} (hW : W ≤ 4) (h0 : 0 ≤ x) (h1 : x < 2 ^ W) (h2 : 0 ≤ y) (h3 : y < W) : 0 ≤ zor x (zshl 1 y) ∧ zor x (zshl 1 y) < 2 ^ W := by
  have : ∀ V : Nat, V < 5 → ∀ a : Nat, a < 2 ^ V → ∀ b : Nat, b < V → 0 ≤ zor a (zshl 1 b) ∧ zor a (zshl 1 b) < 2 ^ V := by decide +kernel
  obtain ⟨a, rfl⟩ : ∃ a : Nat, x = a := ⟨x.toNat, by omega⟩
  obtain ⟨b, rfl⟩ : ∃ b : Nat, y = b := ⟨y.toNat, by omega⟩
  exact this W (by omega) a (by exact_mod_cast h1) b (by omega)
theorem zwb_in {H w : Int → Int} {W : Nat} (hW : W ≤ 4) : ∀ n : Nat, (∀ i : Nat, i < n → w i < W) → 0 ≤ zwb H w n ∧ zwb H w n < 2 ^ W
  | 0, _ => by
    unfold zwb
    exact ⟨by omega, by exact_mod_cast Nat.two_pow_pos W⟩
  | n + 1, hw => by
    have ih := zwb_in (H := H) hW n (fun i hi => hw i (by omega))
    by_cases h : H n = 1 ∧ 0 ≤ w n
    · rw [zwb_t h]
      exact zor_16 hW ih.1 ih.2 h.2 (hw n (by omega))
    · rw [zwb_f h]
      exact ih
theorem zbits {x : Int} {W : Nat} {μ : zMem} (hW : W ≤ 4) (h0 : 0 ≤ x) (h1 : x < 2 ^ W) : fJ6_bitCount_0f7a4 x μ = some (zsm (fun i => zand (zshr x i) 1) W, μ) := by
  have : ∀ V : Nat, V < 5 → ∀ a : Nat, a < 2 ^ V → fJ6_bitCount_0f7a4 a = fun u => some (zsm (fun i => zand (zshr a i) 1) V, u) := by
    intro V hV a ha
    funext u
    have hx : a < 16 := Nat.lt_of_lt_of_le ha (by rcases (show V = 0 ∨ V = 1 ∨ V = 2 ∨ V = 3 ∨ V = 4 by omega) with rfl | rfl | rfl | rfl | rfl <;> decide)
    unfold fJ6_bitCount_0f7a4
    congr 2
    revert a
    revert V
    decide +kernel
  obtain ⟨a, rfl⟩ : ∃ a : Nat, x = a := ⟨x.toNat, by omega⟩
  exact congrFun (this W (by omega) a (by exact_mod_cast h1)) μ
