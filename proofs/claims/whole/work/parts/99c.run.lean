/-! ===== the start, the whole run ===== -/
set_option maxHeartbeats 4000000 in
theorem zB0 (a j : Int) (h : (a, j) ∈ ([(6, 1), (12, 1), (12, 2), (18, 2), (21, 3), (34, 3), (113, 2), (113, 3), (129, 4), (129, 5), (129, 6), (129, 8), (129, 9), (129, 20), (129, 27), (129, 30)] : List (Int × Int))) : zmuB a j = 0 := zmuB_zero (a, j) h
set_option maxHeartbeats 4000000 in
theorem zmuB_A : zGA zmuB := by
  have a1 := zB0 6 1 (by decide)
  have a2 := zB0 12 1 (by decide)
  have a3 := zB0 12 2 (by decide)
  have a4 := zB0 18 2 (by decide)
  have a5 := zB0 21 3 (by decide)
  have a6 := zB0 34 3 (by decide)
  have a7 := zB0 113 2 (by decide)
  have a8 := zB0 113 3 (by decide)
  have r4 := zB0 129 4 (by decide)
  have r5 := zB0 129 5 (by decide)
  have r6 := zB0 129 6 (by decide)
  have r8 := zB0 129 8 (by decide)
  have r9 := zB0 129 9 (by decide)
  have r20 := zB0 129 20 (by decide)
  have r27 := zB0 129 27 (by decide)
  have r30 := zB0 129 30 (by decide)
  have hm := zmuB_may
  have hs := zmuB_shelf
  have hg := zmuB_G0
  revert a1 a2 a3 a4 a5 a6 a7 a8 r4 r5 r6 r8 r9 r20 r27 r30 hm hs hg
  generalize zmuB = μ
  intro a1 a2 a3 a4 a5 a6 a7 a8 r4 r5 r6 r8 r9 r20 r27 r30 hm hs hg
  refine ⟨hg, ⟨by omega, by omega, by omega, fun w i w0 w1 i0 i1 => ?_, fun w i _ _ i0 i1 => by omega⟩, ⟨by omega, by omega, by omega, by omega, by omega, fun k k0 k1 => by omega⟩, ⟨by omega, by omega, by omega, fun k k0 k1 => by omega, fun k k0 k1 => by omega⟩, ⟨⟨by omega, by omega, by omega, fun k k0 k1 => by omega, fun k k0 k1 => by omega⟩, by omega, by omega, by omega, fun k k0 k1 => by omega⟩, ⟨by omega, by omega, fun d d0 d1 => ?_⟩, ⟨⟨by omega, by omega, by omega⟩, fun i i0 i1 => by omega⟩, ⟨by omega, by omega, by omega⟩, fun p p0 p1 => by omega⟩
  · obtain ⟨x, rfl⟩ : ∃ x : Nat, w = x := ⟨w.toNat, by omega⟩
    obtain ⟨y, rfl⟩ : ∃ y : Nat, i = y := ⟨i.toNat, by omega⟩
    obtain ⟨q1, q2⟩ := hm x (by omega) y (by omega)
    rw [show (16 : Int) * (x : Int) + (y : Int) = ((16 * x + y : Nat) : Int) by omega, show (8 : Int) + (x : Int) = ((8 + x : Nat) : Int) by omega, q1, q2]
  · obtain ⟨x, rfl⟩ : ∃ x : Nat, d = x := ⟨d.toNat, by omega⟩
    obtain ⟨q1, q2, q3⟩ := hs x (by omega)
    have hz : zbF (x : Int) = ((117 + 2 * x : Nat) : Int) := by
      show 117 + 2 * (x : Int) = _
      omega
    rw [hz]
    exact Or.inl ⟨q2, by omega, by omega, by omega⟩
set_option maxHeartbeats 4000000 in
theorem zn_1 {K : Int → zMem → zRs} : znew 10 zmu0 K = K 5 (zal zmu0 1) := by
  have h : znc zmu0 = 0 := by decide +kernel
  have h2 : (zshp 5).1 = 10 := by decide +kernel
  unfold znew
  rw [h, if_pos h2]
  rfl
set_option maxHeartbeats 4000000 in
theorem zn_2 {K : Int → zMem → zRs} : znew 11 zmuA K = K 129 (zal zmuA 1) := by
  have h2 : (zshp 129).1 = 11 := by decide +kernel
  unfold znew
  rw [zmuA_nc, if_pos h2]
  rfl
set_option maxHeartbeats 4000000 in
theorem zi_1 {K : Int → zMem → zRs} : ∃ r, zic 5 (fX10_init 5 (zal zmu0 1)) K = K r zmuA := by
  obtain ⟨⟨r, v⟩, hq⟩ := Option.isSome_iff_exists.mp zmuA_some
  have e : zmuA = v := by
    unfold zmuA
    rw [hq]
    rfl
  refine ⟨r, ?_⟩
  unfold zic
  rw [if_pos (by decide), hq, zcall_ok, e]
set_option maxHeartbeats 4000000 in
theorem zi_2 {K : Int → zMem → zRs} : ∃ r, zic 129 (fX11_init 129 (zal zmuA 1)) K = K r zmuB := by
  obtain ⟨⟨r, v⟩, hq⟩ := Option.isSome_iff_exists.mp zmuB_some
  have e : zmuB = v := by
    unfold zmuB
    rw [hq]
    rfl
  refine ⟨r, ?_⟩
  unfold zic
  rw [if_pos (by decide), hq, zcall_ok, e]
set_option maxHeartbeats 4000000 in
theorem zsld_ok {L : Nat} {xs : Nat → Int32} {j : Int} (h0 : 0 ≤ j) (h1 : j < (L : Int)) (K : Int → zRs) : zsld L xs j K = K (xs j.toNat).toInt := if_pos ⟨h0, h1⟩
set_option maxHeartbeats 4000000 in
theorem zx32 (x : Int32) : z32 x.toInt := by
  have h1 := Int32.le_toInt x
  have h2 := Int32.toInt_lt x
  exact ⟨by simpa using h1, by simpa using h2⟩
def zlF (L : Nat) (xs : Nat → Int32) (k9 : Int → zMem → zRs) (v7 : Int) (u8 : zMem) : zRs := zslen L (fun v10 => if v7 > (zw32 (v10 - 6)) then (some (1, u8)) else (zsld L xs v7 (fun v11 => zjn (fun (u12 : zMem) => k9 (zw32 (v7 + 6)) u12) (fun k13 => zlawB L xs 5 129 v7 v11 u8 k13))))
def zlb : Int → zMem → zRs := fun _ _ => none
set_option maxHeartbeats 4000000 in
theorem zslen_ok {L : Nat} {K : Int → zRs} : zslen L K = K (L : Int) := rfl
set_option maxHeartbeats 4000000 in
theorem zlF_s {L : Nat} {xs : Nat → Int32} (hL : L ≤ 384) {n : Nat} (hn : 6 * n + 6 ≤ L) {u : zMem} (hA : zGA u) (k : Int → zMem → zRs) : ∃ u', zGA u' ∧ zlF L xs k ((6 * n : Nat) : Int) u = k ((6 * (n + 1) : Nat) : Int) u' := by
  have hj : ∀ j : Int, 0 ≤ j → j < 6 → ∀ K : Int → zRs, zsld L xs (zw32 (((6 * n : Nat) : Int) + j)) K = K (xs (((6 * n : Nat) : Int) + j).toNat).toInt := fun j j0 j1 K => by
    rw [zw32_id (by omega) (by omega)]
    exact zsld_ok (by omega) (by omega) K
  obtain ⟨u', g, e⟩ := zlawB_ok (L := L) (xs := xs) (v7 := ((6 * n : Nat) : Int)) (zx32 _) (zx32 _) (zx32 _) (zx32 _) (zx32 _) (hj 1 (by decide) (by decide)) (hj 2 (by decide) (by decide)) (hj 3 (by decide) (by decide)) (hj 4 (by decide) (by decide)) (hj 5 (by decide) (by decide)) hA (xs ((6 * n : Nat) : Int).toNat).toInt (fun u12 => k (zw32 (((6 * n : Nat) : Int) + 6)) u12)
  refine ⟨u', g, ?_⟩
  have h0 : (0 : Int) ≤ ((6 * n : Nat) : Int) := by omega
  have h1 : ((6 * n : Nat) : Int) < (L : Int) := by omega
  have hq : zw32 ((L : Int) - 6) = (L : Int) - 6 := zw32_id (by omega) (by omega)
  have c : ¬ ((6 * n : Nat) : Int) > zw32 ((L : Int) - 6) := by
    rw [hq]
    clear hq
    omega
  clear hq
  have h6 : zw32 (((6 * n : Nat) : Int) + 6) = ((6 * (n + 1) : Nat) : Int) := by
    clear c
    rw [zw32_id (by omega) (by omega)]
    omega
  unfold zlF
  rw [zslen_ok, if_neg c, zsld_ok h0 h1, zjn_ok, e]
  show k (zw32 (((6 * n : Nat) : Int) + 6)) u' = _
  rw [h6]
set_option maxHeartbeats 4000000 in
theorem zlF_e {L : Nat} {xs : Nat → Int32} (hL : L ≤ 384) {n : Nat} (hn : L < 6 * n + 6) {u : zMem} (k : Int → zMem → zRs) : zlF L xs k ((6 * n : Nat) : Int) u = some (1, u) := by
  have hq : zw32 ((L : Int) - 6) = (L : Int) - 6 := zw32_id (by omega) (by omega)
  have c : ((6 * n : Nat) : Int) > zw32 ((L : Int) - 6) := by
    rw [hq]
    clear hq
    omega
  unfold zlF
  rw [zslen_ok, if_pos c]
set_option maxHeartbeats 4000000 in
theorem zlF_run {L : Nat} {xs : Nat → Int32} (hL : L ≤ 384) : ∃ r u', zlp zlb (zlF L xs) 1000000 0 zmuB = some (r, u') ∧ (r = 1 ∧ zGA u') := by
  refine zli1 (fun n a u => a = ((6 * n : Nat) : Int) ∧ zGA u) (L / 6) (by omega) (fun k n a u hn hI => ?_) (fun k a u hI => ?_) ⟨rfl, zmuB_A⟩
  · obtain ⟨rfl, hA⟩ := hI
    obtain ⟨u', g, e⟩ := zlF_s (xs := xs) hL (n := n) (by omega) hA k
    exact ⟨_, u', ⟨rfl, g⟩, e⟩
  · obtain ⟨rfl, hA⟩ := hI
    exact ⟨1, u, zlF_e hL (by omega) k, rfl, hA⟩
set_option maxHeartbeats 4000000 in
theorem zlaw_run {L : Nat} {xs : Nat → Int32} (hL : L ≤ 384) : ∃ μ', fL_law L xs zmu0 = some (1, μ') ∧ zGA μ' := by
  obtain ⟨r, u', e, rfl, g⟩ := zlF_run (xs := xs) hL
  refine ⟨u', ?_, g⟩
  rw [fL_law_eq, zn_1]
  obtain ⟨r1, f1⟩ := zi_1 (K := fun _ u3 => znew 11 u3 (fun v4 u5 => zic v4 (fX11_init v4 u5) (fun _ u6 => zlp (fun _ _ => none) (fun k9 (v7 : Int) (u8 : zMem) => zslen L (fun v10 => if v7 > (zw32 (v10 - 6)) then (some (1, u8)) else (zsld L xs v7 (fun v11 => zjn (fun (u12 : zMem) => k9 (zw32 (v7 + 6)) u12) (fun k13 => zlawB L xs 5 v4 v7 v11 u8 k13))))) 1000000 0 u6)))
  obtain ⟨r2, f2⟩ := zi_2 (K := fun _ u6 => zlp (fun _ _ => none) (fun k9 (v7 : Int) (u8 : zMem) => zslen L (fun v10 => if v7 > (zw32 (v10 - 6)) then (some (1, u8)) else (zsld L xs v7 (fun v11 => zjn (fun (u12 : zMem) => k9 (zw32 (v7 + 6)) u12) (fun k13 => zlawB L xs 5 129 v7 v11 u8 k13))))) 1000000 0 u6)
  rw [f1, zn_2, f2]
  exact e
