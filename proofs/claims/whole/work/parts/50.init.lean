/-! ===== the memory behind the two constructors ===== -/
def zmuA : zMem := ((fX10_init 5 (zal zmu0 1)).getD (0, zmu0)).2
def zmuB : zMem := ((fX11_init 129 (zal zmuA 1)).getD (0, zmu0)).2
theorem zmuA_some : (fX10_init 5 (zal zmu0 1)).isSome = true := by decide +kernel
theorem zmuA_nc : znc zmuA = 124 := by decide +kernel
theorem zmuB_some : (fX11_init 129 (zal zmuA 1)).isSome = true := by decide +kernel
theorem zmuB_nc : zmuB (-1) 0 = 147 := by decide +kernel
theorem zmuB_refs : ∀ q ∈ zrefs, zmuB q.1 q.2.1 = q.2.2 := by decide +kernel
theorem zmuB_stat : ∀ k : Nat, k < 5 → 1 ≤ k → ∀ j : Nat, j < (zshp k).2 → zmuB (k : Int) (j : Int) = zSV k j := by decide +kernel
theorem zmuB_G0 : zG0 zmuB := ⟨zmuB_nc, zmuB_refs, fun k j h1 h4 hj => zmuB_stat k (by omega) h1 j hj⟩
theorem zmuB_may : ∀ w : Nat, w < 4 → ∀ i : Nat, i < 16 → zmuB (130 : Int) ((16 * w + i : Nat) : Int) = 0 ∧ zmuB ((8 + w : Nat) : Int) (i : Int) = 0 := by decide +kernel
theorem zmuB_zero : ∀ q ∈ ([(6, 1), (12, 1), (12, 2), (18, 2), (21, 3), (34, 3), (113, 2), (113, 3), (129, 4), (129, 5), (129, 6), (129, 8), (129, 9), (129, 20), (129, 27), (129, 30)] : List (Int × Int)), zmuB q.1 q.2 = 0 := by decide +kernel
theorem zmuB_shelf : ∀ d : Nat, d < 6 → zmuB ((117 + 2 * d : Nat) : Int) 1 = -1 ∧ zmuB ((117 + 2 * d : Nat) : Int) 2 = -1 ∧ zmuB 148 (d : Int) = -1 := by decide +kernel
