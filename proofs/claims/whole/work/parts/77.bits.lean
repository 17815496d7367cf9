/-! ===== bits of small numbers ===== -/
set_option maxHeartbeats 400000 in
theorem zbvN (a : Nat) : (Int32.ofInt (a : Int)).toBitVec = BitVec.ofNat 32 a := BitVec.ofInt_natCast _ _
set_option maxHeartbeats 400000 in
theorem zbvN_n {a : Nat} (h : a < 4294967296) : (Int32.ofInt (a : Int)).toBitVec.toNat = a := by
  rw [zbvN, BitVec.toNat_ofNat]
  exact Nat.mod_eq_of_lt h
set_option maxHeartbeats 400000 in
theorem zI32_n {x : Int32} {n : Nat} (h : x.toBitVec.toNat = n) (hn : n < 2147483648) : x.toInt = (n : Int) := by
  show x.toBitVec.toInt = _
  rw [BitVec.toInt_eq_toNat_of_lt (by omega), h]
set_option maxHeartbeats 400000 in
theorem zor_nat {a b : Nat} (ha : a < 2147483648) (hb : b < 2147483648) : zor (a : Int) (b : Int) = ((a ||| b : Nat) : Int) := by
  unfold zor
  refine zI32_n ?_ (Nat.or_lt_two_pow (n := 31) ha hb)
  rw [Int32.toBitVec_or, BitVec.toNat_or, zbvN_n (by omega), zbvN_n (by omega)]
set_option maxHeartbeats 400000 in
theorem zand_nat {a b : Nat} (ha : a < 2147483648) (hb : b < 2147483648) : zand (a : Int) (b : Int) = ((a &&& b : Nat) : Int) := by
  unfold zand
  refine zI32_n ?_ (Nat.lt_of_le_of_lt Nat.and_le_left ha)
  rw [Int32.toBitVec_and, BitVec.toNat_and, zbvN_n (by omega), zbvN_n (by omega)]
set_option maxHeartbeats 400000 in
theorem zshl_nat {k : Nat} (hk : k < 31) : zshl 1 (k : Int) = ((2 ^ k : Nat) : Int) := by
  have : ∀ k : Nat, k < 31 → zshl 1 (k : Int) = ((2 ^ k : Nat) : Int) := by decide +kernel
  exact this k hk
set_option maxHeartbeats 400000 in
theorem zshr_nat {a k : Nat} (ha : a < 2147483648) (hk : k < 32) : zshr (a : Int) (k : Int) = ((a / 2 ^ k : Nat) : Int) := by
  unfold zshr
  have hs : ∀ k : Nat, k < 32 → ((Int32.ofInt (k : Int) &&& 31).toBitVec.smod 32).toNat = k := by decide +kernel
  show (Int32.ofInt (a : Int) >>> (Int32.ofInt (k : Int) &&& 31)).toBitVec.toInt = _
  rw [Int32.toBitVec_shiftRight]
  show ((Int32.ofInt (a : Int)).toBitVec.sshiftRight ((Int32.ofInt (k : Int) &&& 31).toBitVec.smod 32).toNat).toInt = _
  rw [hs k hk, BitVec.toInt_sshiftRight]
  have e : (Int32.ofInt (a : Int)).toBitVec.toInt = (a : Int) := zI32_n (zbvN_n (by omega)) ha
  rw [e, Int.shiftRight_eq_div_pow]
  rfl
set_option maxHeartbeats 400000 in
theorem zushr_nat {a k : Nat} (ha : a < 2147483648) (hk : k < 32) : zushr (a : Int) (k : Int) = ((a / 2 ^ k : Nat) : Int) := by
  unfold zushr
  have hs : ∀ k : Nat, k < 32 → (((Int32.ofInt (k : Int)).toUInt32 &&& Int32.toUInt32 31).toBitVec % 32).toNat = k := by decide +kernel
  refine zI32_n ?_ (Nat.lt_of_le_of_lt (Nat.div_le_self _ _) ha)
  show ((Int32.ofInt (a : Int)).toUInt32 >>> ((Int32.ofInt (k : Int)).toUInt32 &&& Int32.toUInt32 31)).toBitVec.toNat = _
  rw [UInt32.toBitVec_shiftRight]
  show ((Int32.ofInt (a : Int)).toBitVec >>> (((Int32.ofInt (k : Int)).toUInt32 &&& Int32.toUInt32 31).toBitVec % 32).toNat).toNat = _
  rw [BitVec.toNat_ushiftRight, zbvN_n (by omega), hs k hk, Nat.shiftRight_eq_div_pow]
/-- bit k -/
abbrev zbi (a k : Nat) : Bool := a.testBit k
set_option maxHeartbeats 400000 in
theorem zbi_get {a k : Nat} (ha : a < 2147483648) (hk : k < 31) : zand (zshr (a : Int) (k : Int)) 1 = if zbi a k then 1 else 0 := by
  rw [zshr_nat ha (by omega)]
  have h := zand_nat (a := a / 2 ^ k) (b := 1) (Nat.lt_of_le_of_lt (Nat.div_le_self _ _) ha) (by decide)
  rw [show ((1 : Nat) : Int) = 1 from rfl] at h
  rw [h, Nat.and_one_is_mod]
  unfold zbi
  rw [Nat.testBit_eq_decide_div_mod_eq]
  by_cases e : a / 2 ^ k % 2 = 1
  · rw [e]; simp [e]
  · have : a / 2 ^ k % 2 = 0 := by omega
    rw [this]; simp [this]
/-- bit k taken away -/
def zcl (a k : Nat) : Nat := (Int32.ofInt (a : Int) &&& Int32.ofInt (zxor (zshl 1 (k : Int)) (-1))).toBitVec.toNat
set_option maxHeartbeats 400000 in
theorem zcl_le {a k : Nat} (ha : a < 65536) : zcl a k ≤ a := by
  unfold zcl
  rw [Int32.toBitVec_and, BitVec.toNat_and, zbvN_n (by omega)]
  exact Nat.and_le_left
set_option maxHeartbeats 400000 in
theorem zcl_eq {a k : Nat} (ha : a < 65536) : zand (a : Int) (zxor (zshl 1 (k : Int)) (-1)) = (zcl a k : Int) := by
  have h := zcl_le (k := k) ha
  exact zI32_n (n := zcl a k) rfl (by omega)
set_option maxHeartbeats 400000 in
theorem zcl_bit {a k : Nat} (ha : a < 65536) (hk : k < 16) (j : Nat) : zbi (zcl a k) j = (zbi a j && !(decide (j = k))) := by
  have hm : ∀ k : Nat, k < 16 → (Int32.ofInt (zxor (zshl 1 (k : Int)) (-1))).toBitVec = ~~~ (BitVec.ofNat 32 (2 ^ k)) := by decide +kernel
  unfold zbi zcl
  rw [Int32.toBitVec_and, BitVec.toNat_and, Nat.testBit_and, zbvN_n (by omega), hm k hk]
  by_cases hj : j < 32
  · congr 1
    rw [show (~~~ (BitVec.ofNat 32 (2 ^ k))).toNat.testBit j = (~~~ (BitVec.ofNat 32 (2 ^ k))).getLsbD j from rfl, BitVec.getLsbD_not, BitVec.getLsbD_ofNat, Nat.testBit_two_pow]
    by_cases h : k = j
    · simp [hj, h]
    · have h2 : ¬ j = k := fun e => h e.symm
      simp [hj, h, h2]
  · have : a.testBit j = false := Nat.testBit_lt_two_pow (Nat.lt_of_lt_of_le ha (Nat.le_trans (show 65536 ≤ 2 ^ 32 by decide) (Nat.pow_le_pow_right (by decide) (by omega))))
    rw [this]; rfl
/-- how many of the first n bits are set -/
def zpcS (f : Nat → Bool) : Nat → Nat
  | 0 => 0
  | n + 1 => zpcS f n + (f n).toNat
set_option maxHeartbeats 400000 in
theorem zpcS_clr {f g : Nat → Bool} {k : Nat} (hg : ∀ j, g j = (f j && !(decide (j = k)))) (hk : f k = true) : ∀ n, zpcS g n + (if k < n then 1 else 0) = zpcS f n
  | 0 => rfl
  | n + 1 => by
    have ih := zpcS_clr hg hk n
    simp only [zpcS]
    rw [hg n]
    by_cases h : n = k
    · subst h
      rw [if_neg (by omega)] at ih
      rw [if_pos (by omega), hk]
      simp
      omega
    · have e : (f n && !(decide (n = k))) = f n := by simp [h]
      rw [e]
      by_cases h2 : k < n
      · rw [if_pos h2] at ih
        rw [if_pos (by omega)]
        omega
      · rw [if_neg h2] at ih
        rw [if_neg (by omega)]
        omega
set_option maxHeartbeats 400000 in
theorem zpcS_0 {f : Nat → Bool} : ∀ n, zpcS f n = 0 → ∀ j, j < n → f j = false
  | 0, _, j, hj => by omega
  | n + 1, h, j, hj => by
    simp only [zpcS] at h
    by_cases e : j = n
    · subst e
      cases q : f j
      · rfl
      · rw [q] at h; simp at h
    · exact zpcS_0 n (by omega) j (by omega)
set_option maxHeartbeats 400000 in
theorem zpcS_le {f : Nat → Bool} : ∀ n, zpcS f n ≤ n
  | 0 => Nat.le_refl _
  | n + 1 => by
    have := zpcS_le (f := f) n
    simp only [zpcS]
    cases f n <;> simp <;> omega
def zpc (a : Nat) : Nat := zpcS (zbi a) 16
set_option maxHeartbeats 400000 in
theorem zbi_hi {a k : Nat} (ha : a < 65536) (hk : 16 ≤ k) : zbi a k = false := Nat.testBit_lt_two_pow (Nat.lt_of_lt_of_le ha (Nat.le_trans (show 65536 ≤ 2 ^ 16 by decide) (Nat.pow_le_pow_right (by decide) hk)))
set_option maxHeartbeats 400000 in
theorem zpc_0 {a : Nat} (ha : a < 65536) (h : zpc a = 0) : a = 0 := by
  apply Nat.eq_of_testBit_eq
  intro j
  rw [Nat.zero_testBit]
  by_cases hj : j < 16
  · exact zpcS_0 16 h j hj
  · exact zbi_hi ha (by omega)
set_option maxHeartbeats 400000 in
theorem zpc_cl {a k : Nat} (ha : a < 65536) (hk : k < 16) (h : zbi a k = true) : zpc (zcl a k) + 1 = zpc a := by
  have := zpcS_clr (fun j => zcl_bit ha hk j) h 16
  rw [if_pos hk] at this
  exact this
def zb1 (a : Nat) : Nat := Nat.sub a (Nat.land (Nat.div a 2) 1431655765)
def zb2 (b : Nat) : Nat := Nat.add (Nat.land b 858993459) (Nat.land (Nat.div b 4) 858993459)
def zb3 (c : Nat) : Nat := Nat.land (Nat.add c (Nat.div c 16)) 252645135
def zb4 (d : Nat) : Nat := Nat.add d (Nat.div d 256)
def zb5 (e : Nat) : Nat := Nat.land (Nat.add e (Nat.div e 65536)) 63
def zp4 (a : Nat) : Nat := Nat.add (Nat.add (Nat.mod a 2) (Nat.mod (Nat.div a 2) 2)) (Nat.add (Nat.mod (Nat.div a 4) 2) (Nat.mod (Nat.div a 8) 2))
def zp16 (a : Nat) : Nat := Nat.add (Nat.add (zp4 a) (zp4 (Nat.div a 16))) (Nat.add (zp4 (Nat.div a 256)) (zp4 (Nat.div a 4096)))
set_option maxRecDepth 100000 in
set_option maxHeartbeats 400000 in
theorem zpc_all : ∀ h : Nat, h < 256 → ∀ l : Nat, l < 256 → Nat.beq (zb5 (zb4 (zb3 (zb2 (zb1 (Nat.add (Nat.mul 256 h) l)))))) (zp16 (Nat.add (Nat.mul 256 h) l)) = true := by decide +kernel
set_option maxHeartbeats 400000 in
theorem zpc_16 (a : Nat) : zpc a = zp16 a := by
  have h : ∀ k, (zbi a k).toNat = a / 2 ^ k % 2 := fun k => Nat.toNat_testBit a k
  have e4 : ∀ b : Nat, zp4 b = (b % 2 + b / 2 % 2) + (b / 4 % 2 + b / 8 % 2) := fun _ => rfl
  have e16 : zp16 a = (zp4 a + zp4 (a / 16)) + (zp4 (a / 256) + zp4 (a / 4096)) := rfl
  unfold zpc
  simp only [zpcS, h]
  rw [e16, e4, e4, e4, e4]
  simp only [Nat.div_div_eq_div_mul, Nat.reduceMul, Nat.reducePow, Nat.pow_zero, Nat.div_one]
  omega
set_option maxHeartbeats 400000 in
theorem zpc_b5 {a : Nat} (ha : a < 65536) : zb5 (zb4 (zb3 (zb2 (zb1 a)))) = zpc a := by
  have h := zpc_all (a / 256) (by omega) (a % 256) (by omega)
  have e : Nat.add (Nat.mul 256 (a / 256)) (a % 256) = a := by
    show 256 * (a / 256) + a % 256 = a
    omega
  rw [e] at h
  rw [zpc_16]
  exact Nat.eq_of_beq_eq_true h
set_option maxHeartbeats 400000 in
theorem zbitc {a : Nat} (ha : a < 65536) {μ : zMem} : fJ6_bitCount_0f7a4 (a : Int) μ = some ((zpc a : Int), μ) := by
  have w : ∀ n : Nat, n < 2147483648 → zw32 (n : Int) = (n : Int) := fun n hn => zw32_id (by omega) (by omega)
  have e1 : zw32 ((a : Int) - zand (zushr (a : Int) 1) 1431655765) = ((zb1 a : Nat) : Int) := by
    have h1 := zushr_nat (a := a) (k := 1) (by omega) (by omega)
    have h2 := zand_nat (a := a / 2 ^ 1) (b := 1431655765) (by omega) (by omega)
    have h3 : a / 2 ^ 1 &&& 1431655765 ≤ a / 2 ^ 1 := Nat.and_le_left
    rw [show ((1 : Nat) : Int) = 1 from rfl] at h1
    rw [show ((1431655765 : Nat) : Int) = 1431655765 from rfl] at h2
    rw [h1, h2]
    have h4 : ((zb1 a : Nat) : Int) = (a : Int) - ((a / 2 ^ 1 &&& 1431655765 : Nat) : Int) := by
      rw [show zb1 a = a - (a / 2 ^ 1 &&& 1431655765) from rfl]
      omega
    rw [h4, zw32_id (by omega) (by omega)]
  have b1 : zb1 a ≤ a := Nat.sub_le _ _
  have e2 : ∀ b : Nat, b < 65536 → zw32 (zand (b : Int) 858993459 + zand (zushr (b : Int) 2) 858993459) = ((zb2 b : Nat) : Int) ∧ zb2 b < 131072 := by
    intro b hb
    have h1 := zushr_nat (a := b) (k := 2) (by omega) (by omega)
    have h2 := zand_nat (a := b / 2 ^ 2) (b := 858993459) (by omega) (by omega)
    have h3 := zand_nat (a := b) (b := 858993459) (by omega) (by omega)
    have h4 : b / 2 ^ 2 &&& 858993459 ≤ b / 2 ^ 2 := Nat.and_le_left
    have h5 : b &&& 858993459 ≤ b := Nat.and_le_left
    rw [show ((2 : Nat) : Int) = 2 from rfl] at h1
    rw [show ((858993459 : Nat) : Int) = 858993459 from rfl] at h2 h3
    have h6 : zb2 b = (b &&& 858993459) + (b / 2 ^ 2 &&& 858993459) := rfl
    rw [h1, h2, h3, h6]
    refine ⟨?_, by omega⟩
    rw [zw32_id (by omega) (by omega)]
    omega
  have e3 : ∀ c : Nat, c < 131072 → zand (zw32 ((c : Int) + zushr (c : Int) 4)) 252645135 = ((zb3 c : Nat) : Int) ∧ zb3 c < 262144 := by
    intro c hc
    have h1 := zushr_nat (a := c) (k := 4) (by omega) (by omega)
    rw [show ((4 : Nat) : Int) = 4 from rfl] at h1
    have h2 : zw32 ((c : Int) + ((c / 2 ^ 4 : Nat) : Int)) = ((c + c / 2 ^ 4 : Nat) : Int) := by rw [zw32_id (by omega) (by omega)]; omega
    have h3 := zand_nat (a := c + c / 2 ^ 4) (b := 252645135) (by omega) (by omega)
    rw [show ((252645135 : Nat) : Int) = 252645135 from rfl] at h3
    have h4 : c + c / 2 ^ 4 &&& 252645135 ≤ c + c / 2 ^ 4 := Nat.and_le_left
    have h6 : zb3 c = (c + c / 2 ^ 4 &&& 252645135) := rfl
    rw [h1, h2, h3, h6]
    exact ⟨rfl, by omega⟩
  have e4 : ∀ d : Nat, d < 262144 → zw32 ((d : Int) + zushr (d : Int) 8) = ((zb4 d : Nat) : Int) ∧ zb4 d < 524288 := by
    intro d hd
    have h1 := zushr_nat (a := d) (k := 8) (by omega) (by omega)
    rw [show ((8 : Nat) : Int) = 8 from rfl] at h1
    have h6 : zb4 d = d + d / 2 ^ 8 := rfl
    rw [h1, h6]
    refine ⟨?_, by omega⟩
    rw [zw32_id (by omega) (by omega)]
    omega
  have e5 : ∀ d : Nat, d < 524288 → zand (zw32 ((d : Int) + zushr (d : Int) 16)) 63 = ((zb5 d : Nat) : Int) := by
    intro c hc
    have h1 := zushr_nat (a := c) (k := 16) (by omega) (by omega)
    rw [show ((16 : Nat) : Int) = 16 from rfl] at h1
    have h2 : zw32 ((c : Int) + ((c / 2 ^ 16 : Nat) : Int)) = ((c + c / 2 ^ 16 : Nat) : Int) := by rw [zw32_id (by omega) (by omega)]; omega
    have h3 := zand_nat (a := c + c / 2 ^ 16) (b := 63) (by omega) (by omega)
    rw [show ((63 : Nat) : Int) = 63 from rfl] at h3
    rw [h1, h2, h3]
    rfl
  have f2 := e2 (zb1 a) (by omega)
  have f3 := e3 _ f2.2
  have f4 := e4 _ f3.2
  have f5 := e5 _ f4.2
  unfold fJ6_bitCount_0f7a4
  rw [e1, f2.1, f3.1, f4.1, f5, zpc_b5 ha]
