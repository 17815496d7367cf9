/-! ===== reading and writing at the places that are fixed (printed by program) ===== -/
theorem zw32_id {x : Int} (h1 : -2147483648 ≤ x) (h2 : x < 2147483648) : zw32 x = x := by unfold zw32; omega
theorem zw64_id {x : Int} (h1 : -9223372036854775808 ≤ x) (h2 : x < 9223372036854775808) : zw64 x = x := by unfold zw64; omega
theorem zw32_in (x : Int) : -2147483648 ≤ zw32 x ∧ zw32 x < 2147483648 := by unfold zw32; omega
theorem zw64_in (x : Int) : -9223372036854775808 ≤ zw64 x ∧ zw64 x < 9223372036854775808 := by unfold zw64; omega
theorem zcall_ok {r : Int} {μ : zMem} {K : Int → zMem → zRs} : zcall (some (r, μ)) K = K r μ := rfl
theorem zvc_ok {ci : Nat} {a r : Int} {μ : zMem} {K : Int → zMem → zRs} (h : zisC ci a = true) : zvc ci a (some (r, μ)) K = K r μ := by unfold zvc; rw [if_pos h]; rfl
theorem zgf_ok {ci j : Nat} {a : Int} {μ : zMem} {K : Int → zRs} (h : zisC ci a = true) : zgf ci j a μ K = K (μ a j) := by unfold zgf; rw [if_pos h]
theorem zpf_ok {ci j : Nat} {a v : Int} {μ : zMem} {K : zMem → zRs} (h : zisC ci a = true) : zpf ci j a v μ K = K (zupd μ a j v) := by unfold zpf; rw [if_pos h]
theorem zald_ok {kd n : Nat} {a j : Int} {μ : zMem} {K : Int → zRs} (h : zshp a.toNat = (kd, n)) (h1 : 1 ≤ a) (h2 : 0 ≤ j) (h3 : j < (n : Int)) : zald kd a j μ K = K (μ a j) := by unfold zald zisA; rw [h]; simp [h1, h2, h3]
theorem zast_ok {kd n : Nat} {a j v : Int} {μ : zMem} {K : zMem → zRs} (h : zshp a.toNat = (kd, n)) (h1 : 5 ≤ a) (h2 : 0 ≤ j) (h3 : j < (n : Int)) : zast kd a j v μ K = K (zupd μ a j v) := by unfold zast zisW zisA; rw [h]; simp [h1, h2, h3, show (1 : Int) ≤ a by omega]
theorem zlen_ok {kd n : Nat} {a : Int} {K : Int → zRs} (h : zshp a.toNat = (kd, n)) (h1 : 1 ≤ a) : zlen kd a K = K (n : Int) := by unfold zlen; rw [h]; simp [h1]
theorem zcopy_ok {kd n n2 : Nat} {a i b j c : Int} {μ : zMem} {K : zMem → zRs} (h : zshp a.toNat = (kd, n)) (h' : zshp b.toNat = (kd, n2)) (h1 : 1 ≤ a) (h2 : 5 ≤ b) (h3 : 0 ≤ i) (h4 : 0 ≤ j) (h5 : 0 ≤ c) (h6 : i + c ≤ (n : Int)) (h7 : j + c ≤ (n2 : Int)) : zcopy kd a i b j c μ K = K (zcpm μ a i b j c) := by
  unfold zcopy; rw [h, h', if_pos ⟨h1, h2, rfl, rfl, h3, h4, h5, h6, h7⟩]
theorem zbl_0 {K : zRs} : zbl 0 K = K := rfl
theorem zbl_1 {K : zRs} : zbl 1 K = K := rfl
theorem zbl_ok {x : Int} {K : zRs} (h : x = 0 ∨ x = 1) : zbl x K = K := by unfold zbl; rw [if_pos h]
theorem znz_ok {x : Int} {K : zRs} (h : ¬ x = 0) : znz x K = K := by unfold znz; rw [if_neg h]
theorem zjn_ok {α : Type} {J : α} {body : α → zRs} : zjn J body = body J := rfl
theorem zu_eq {μ : zMem} {a j v : Int} : zupd μ a j v a j = v := by unfold zupd; rw [if_pos ⟨rfl, rfl⟩]
theorem zu_a {μ : zMem} {a j v a' j' : Int} (h : ¬ a' = a) : zupd μ a j v a' j' = μ a' j' := by unfold zupd; rw [if_neg (fun q => h q.1)]
theorem zu_j {μ : zMem} {a j v a' j' : Int} (h : ¬ j' = j) : zupd μ a j v a' j' = μ a' j' := by unfold zupd; rw [if_neg (fun q => h q.2)]
theorem zu_is {μ : zMem} {a j v a' j' : Int} (h : a' = a) (h2 : j' = j) : zupd μ a j v a' j' = v := by unfold zupd; rw [if_pos ⟨h, h2⟩]
/-- a loop's total correctness: P k f says what f gives in the states of measure below k -/
theorem zlp_meas {α : Type} {bot : α} {F : α → α} (P : Nat → α → Prop) (h0 : P 0 bot) (hs : ∀ k f, P k f → P (k + 1) (F f)) : ∀ n, P n (zlp bot F n)
  | 0 => h0
  | n + 1 => hs n _ (zlp_meas P h0 hs n)
def zb (c : Prop) [Decidable c] : Int := if c then 1 else 0
theorem zb_0 {c : Prop} [Decidable c] : (zb c = 0) = ¬ c := by unfold zb; split <;> simp [*]
theorem zb_1 {c : Prop} [Decidable c] : (zb c = 1) = c := by unfold zb; split <;> simp [*]
theorem zb_n {c : Prop} [Decidable c] : (zb c ≠ 0) = c := by unfold zb; split <;> simp [*]
theorem zb_t {c : Prop} [Decidable c] (h : c) : zb c = 1 := if_pos h
theorem zb_f {c : Prop} [Decidable c] (h : ¬ c) : zb c = 0 := if_neg h
theorem zro {μ μ' : zMem} {r : Int} {o : zRs} (h : zMd [] μ μ o) (hG : zG0 μ) (ho : o = some (r, μ')) : μ' = μ := by
  funext a j
  exact (h hG zagr_refl r μ' ho).2 a j (by simp)
theorem g_5_0 {μ : zMem} (h : zG0 μ) : μ 5 0 = 6 := h.2.1 (5, 0, 6) (by decide +kernel)
theorem g_5_1 {μ : zMem} (h : zG0 μ) : μ 5 1 = 12 := h.2.1 (5, 1, 12) (by decide +kernel)
theorem g_5_2 {μ : zMem} (h : zG0 μ) : μ 5 2 = 18 := h.2.1 (5, 2, 18) (by decide +kernel)
theorem g_5_3 {μ : zMem} (h : zG0 μ) : μ 5 3 = 21 := h.2.1 (5, 3, 21) (by decide +kernel)
theorem g_5_4 {μ : zMem} (h : zG0 μ) : μ 5 4 = 34 := h.2.1 (5, 4, 34) (by decide +kernel)
theorem g_5_5 {μ : zMem} (h : zG0 μ) : μ 5 5 = 113 := h.2.1 (5, 5, 113) (by decide +kernel)
theorem g_5_6 {μ : zMem} (h : zG0 μ) : μ 5 6 = 116 := h.2.1 (5, 6, 116) (by decide +kernel)
theorem g_6_0 {μ : zMem} (h : zG0 μ) : μ 6 0 = 7 := h.2.1 (6, 0, 7) (by decide +kernel)
theorem g_7_0 {μ : zMem} (h : zG0 μ) : μ 7 0 = 8 := h.2.1 (7, 0, 8) (by decide +kernel)
theorem g_7_1 {μ : zMem} (h : zG0 μ) : μ 7 1 = 9 := h.2.1 (7, 1, 9) (by decide +kernel)
theorem g_7_2 {μ : zMem} (h : zG0 μ) : μ 7 2 = 10 := h.2.1 (7, 2, 10) (by decide +kernel)
theorem g_7_3 {μ : zMem} (h : zG0 μ) : μ 7 3 = 11 := h.2.1 (7, 3, 11) (by decide +kernel)
theorem g_12_0 {μ : zMem} (h : zG0 μ) : μ 12 0 = 13 := h.2.1 (12, 0, 13) (by decide +kernel)
theorem g_13_0 {μ : zMem} (h : zG0 μ) : μ 13 0 = 14 := h.2.1 (13, 0, 14) (by decide +kernel)
theorem g_13_1 {μ : zMem} (h : zG0 μ) : μ 13 1 = 15 := h.2.1 (13, 1, 15) (by decide +kernel)
theorem g_13_2 {μ : zMem} (h : zG0 μ) : μ 13 2 = 16 := h.2.1 (13, 2, 16) (by decide +kernel)
theorem g_13_3 {μ : zMem} (h : zG0 μ) : μ 13 3 = 17 := h.2.1 (13, 3, 17) (by decide +kernel)
theorem g_18_0 {μ : zMem} (h : zG0 μ) : μ 18 0 = 19 := h.2.1 (18, 0, 19) (by decide +kernel)
theorem g_18_1 {μ : zMem} (h : zG0 μ) : μ 18 1 = 20 := h.2.1 (18, 1, 20) (by decide +kernel)
theorem g_21_0 {μ : zMem} (h : zG0 μ) : μ 21 0 = 6 := h.2.1 (21, 0, 6) (by decide +kernel)
theorem g_21_1 {μ : zMem} (h : zG0 μ) : μ 21 1 = 23 := h.2.1 (21, 1, 23) (by decide +kernel)
theorem g_21_2 {μ : zMem} (h : zG0 μ) : μ 21 2 = 22 := h.2.1 (21, 2, 22) (by decide +kernel)
theorem g_23_0 {μ : zMem} (h : zG0 μ) : μ 23 0 = 6 := h.2.1 (23, 0, 6) (by decide +kernel)
theorem g_23_1 {μ : zMem} (h : zG0 μ) : μ 23 1 = 24 := h.2.1 (23, 1, 24) (by decide +kernel)
theorem g_23_2 {μ : zMem} (h : zG0 μ) : μ 23 2 = 25 := h.2.1 (23, 2, 25) (by decide +kernel)
theorem g_22_0 {μ : zMem} (h : zG0 μ) : μ 22 0 = 26 := h.2.1 (22, 0, 26) (by decide +kernel)
theorem g_22_1 {μ : zMem} (h : zG0 μ) : μ 22 1 = 28 := h.2.1 (22, 1, 28) (by decide +kernel)
theorem g_22_2 {μ : zMem} (h : zG0 μ) : μ 22 2 = 30 := h.2.1 (22, 2, 30) (by decide +kernel)
theorem g_22_3 {μ : zMem} (h : zG0 μ) : μ 22 3 = 32 := h.2.1 (22, 3, 32) (by decide +kernel)
theorem g_34_0 {μ : zMem} (h : zG0 μ) : μ 34 0 = 6 := h.2.1 (34, 0, 6) (by decide +kernel)
theorem g_34_1 {μ : zMem} (h : zG0 μ) : μ 34 1 = 35 := h.2.1 (34, 1, 35) (by decide +kernel)
theorem g_34_2 {μ : zMem} (h : zG0 μ) : μ 34 2 = 36 := h.2.1 (34, 2, 36) (by decide +kernel)
theorem g_36_0 {μ : zMem} (h : zG0 μ) : μ 36 0 = 37 := h.2.1 (36, 0, 37) (by decide +kernel)
theorem g_36_1 {μ : zMem} (h : zG0 μ) : μ 36 1 = 38 := h.2.1 (36, 1, 38) (by decide +kernel)
theorem g_36_2 {μ : zMem} (h : zG0 μ) : μ 36 2 = 39 := h.2.1 (36, 2, 39) (by decide +kernel)
theorem g_36_3 {μ : zMem} (h : zG0 μ) : μ 36 3 = 40 := h.2.1 (36, 3, 40) (by decide +kernel)
theorem g_36_4 {μ : zMem} (h : zG0 μ) : μ 36 4 = 41 := h.2.1 (36, 4, 41) (by decide +kernel)
theorem g_36_5 {μ : zMem} (h : zG0 μ) : μ 36 5 = 42 := h.2.1 (36, 5, 42) (by decide +kernel)
theorem g_36_6 {μ : zMem} (h : zG0 μ) : μ 36 6 = 43 := h.2.1 (36, 6, 43) (by decide +kernel)
theorem g_36_7 {μ : zMem} (h : zG0 μ) : μ 36 7 = 44 := h.2.1 (36, 7, 44) (by decide +kernel)
theorem g_36_8 {μ : zMem} (h : zG0 μ) : μ 36 8 = 45 := h.2.1 (36, 8, 45) (by decide +kernel)
theorem g_36_9 {μ : zMem} (h : zG0 μ) : μ 36 9 = 46 := h.2.1 (36, 9, 46) (by decide +kernel)
theorem g_36_10 {μ : zMem} (h : zG0 μ) : μ 36 10 = 47 := h.2.1 (36, 10, 47) (by decide +kernel)
theorem g_36_11 {μ : zMem} (h : zG0 μ) : μ 36 11 = 48 := h.2.1 (36, 11, 48) (by decide +kernel)
theorem g_36_12 {μ : zMem} (h : zG0 μ) : μ 36 12 = 49 := h.2.1 (36, 12, 49) (by decide +kernel)
theorem g_36_13 {μ : zMem} (h : zG0 μ) : μ 36 13 = 50 := h.2.1 (36, 13, 50) (by decide +kernel)
theorem g_36_14 {μ : zMem} (h : zG0 μ) : μ 36 14 = 51 := h.2.1 (36, 14, 51) (by decide +kernel)
theorem g_36_15 {μ : zMem} (h : zG0 μ) : μ 36 15 = 52 := h.2.1 (36, 15, 52) (by decide +kernel)
theorem g_35_0 {μ : zMem} (h : zG0 μ) : μ 35 0 = 53 := h.2.1 (35, 0, 53) (by decide +kernel)
theorem g_35_1 {μ : zMem} (h : zG0 μ) : μ 35 1 = 59 := h.2.1 (35, 1, 59) (by decide +kernel)
theorem g_35_2 {μ : zMem} (h : zG0 μ) : μ 35 2 = 65 := h.2.1 (35, 2, 65) (by decide +kernel)
theorem g_35_3 {μ : zMem} (h : zG0 μ) : μ 35 3 = 71 := h.2.1 (35, 3, 71) (by decide +kernel)
theorem g_35_4 {μ : zMem} (h : zG0 μ) : μ 35 4 = 77 := h.2.1 (35, 4, 77) (by decide +kernel)
theorem g_35_5 {μ : zMem} (h : zG0 μ) : μ 35 5 = 83 := h.2.1 (35, 5, 83) (by decide +kernel)
theorem g_35_6 {μ : zMem} (h : zG0 μ) : μ 35 6 = 89 := h.2.1 (35, 6, 89) (by decide +kernel)
theorem g_35_7 {μ : zMem} (h : zG0 μ) : μ 35 7 = 95 := h.2.1 (35, 7, 95) (by decide +kernel)
theorem g_35_8 {μ : zMem} (h : zG0 μ) : μ 35 8 = 101 := h.2.1 (35, 8, 101) (by decide +kernel)
theorem g_35_9 {μ : zMem} (h : zG0 μ) : μ 35 9 = 107 := h.2.1 (35, 9, 107) (by decide +kernel)
theorem g_113_0 {μ : zMem} (h : zG0 μ) : μ 113 0 = 114 := h.2.1 (113, 0, 114) (by decide +kernel)
theorem g_113_1 {μ : zMem} (h : zG0 μ) : μ 113 1 = 115 := h.2.1 (113, 1, 115) (by decide +kernel)
theorem g_116_0 {μ : zMem} (h : zG0 μ) : μ 116 0 = 117 := h.2.1 (116, 0, 117) (by decide +kernel)
theorem g_116_1 {μ : zMem} (h : zG0 μ) : μ 116 1 = 119 := h.2.1 (116, 1, 119) (by decide +kernel)
theorem g_116_2 {μ : zMem} (h : zG0 μ) : μ 116 2 = 121 := h.2.1 (116, 2, 121) (by decide +kernel)
theorem g_116_3 {μ : zMem} (h : zG0 μ) : μ 116 3 = 123 := h.2.1 (116, 3, 123) (by decide +kernel)
theorem g_116_4 {μ : zMem} (h : zG0 μ) : μ 116 4 = 125 := h.2.1 (116, 4, 125) (by decide +kernel)
theorem g_116_5 {μ : zMem} (h : zG0 μ) : μ 116 5 = 127 := h.2.1 (116, 5, 127) (by decide +kernel)
theorem g_129_0 {μ : zMem} (h : zG0 μ) : μ 129 0 = 130 := h.2.1 (129, 0, 130) (by decide +kernel)
theorem g_129_1 {μ : zMem} (h : zG0 μ) : μ 129 1 = 131 := h.2.1 (129, 1, 131) (by decide +kernel)
theorem g_129_2 {μ : zMem} (h : zG0 μ) : μ 129 2 = 132 := h.2.1 (129, 2, 132) (by decide +kernel)
theorem g_129_3 {μ : zMem} (h : zG0 μ) : μ 129 3 = 133 := h.2.1 (129, 3, 133) (by decide +kernel)
theorem g_129_7 {μ : zMem} (h : zG0 μ) : μ 129 7 = 134 := h.2.1 (129, 7, 134) (by decide +kernel)
theorem g_129_10 {μ : zMem} (h : zG0 μ) : μ 129 10 = 135 := h.2.1 (129, 10, 135) (by decide +kernel)
theorem g_129_11 {μ : zMem} (h : zG0 μ) : μ 129 11 = 136 := h.2.1 (129, 11, 136) (by decide +kernel)
theorem g_129_12 {μ : zMem} (h : zG0 μ) : μ 129 12 = 137 := h.2.1 (129, 12, 137) (by decide +kernel)
theorem g_129_13 {μ : zMem} (h : zG0 μ) : μ 129 13 = 138 := h.2.1 (129, 13, 138) (by decide +kernel)
theorem g_129_19 {μ : zMem} (h : zG0 μ) : μ 129 19 = 139 := h.2.1 (129, 19, 139) (by decide +kernel)
theorem g_129_21 {μ : zMem} (h : zG0 μ) : μ 129 21 = 140 := h.2.1 (129, 21, 140) (by decide +kernel)
theorem g_129_22 {μ : zMem} (h : zG0 μ) : μ 129 22 = 141 := h.2.1 (129, 22, 141) (by decide +kernel)
theorem g_129_23 {μ : zMem} (h : zG0 μ) : μ 129 23 = 142 := h.2.1 (129, 23, 142) (by decide +kernel)
theorem g_129_24 {μ : zMem} (h : zG0 μ) : μ 129 24 = 143 := h.2.1 (129, 24, 143) (by decide +kernel)
theorem g_129_25 {μ : zMem} (h : zG0 μ) : μ 129 25 = 144 := h.2.1 (129, 25, 144) (by decide +kernel)
theorem g_129_26 {μ : zMem} (h : zG0 μ) : μ 129 26 = 145 := h.2.1 (129, 26, 145) (by decide +kernel)
theorem g_129_28 {μ : zMem} (h : zG0 μ) : μ 129 28 = 146 := h.2.1 (129, 28, 146) (by decide +kernel)
theorem g_129_29 {μ : zMem} (h : zG0 μ) : μ 129 29 = 147 := h.2.1 (129, 29, 147) (by decide +kernel)
theorem g_129_33 {μ : zMem} (h : zG0 μ) : μ 129 33 = 148 := h.2.1 (129, 33, 148) (by decide +kernel)
theorem g_129_34 {μ : zMem} (h : zG0 μ) : μ 129 34 = 149 := h.2.1 (129, 34, 149) (by decide +kernel)
theorem g_129_35 {μ : zMem} (h : zG0 μ) : μ 129 35 = 150 := h.2.1 (129, 35, 150) (by decide +kernel)
theorem g_129_36 {μ : zMem} (h : zG0 μ) : μ 129 36 = 151 := h.2.1 (129, 36, 151) (by decide +kernel)
theorem c_5 : zisC 10 5 = true := rfl
theorem gf_5 {j : Nat} {μ : zMem} {K : Int → zRs} : zgf 10 j 5 μ K = K (μ 5 j) := zgf_ok rfl
theorem pf_5 {j : Nat} {v : Int} {μ : zMem} {K : zMem → zRs} : zpf 10 j 5 v μ K = K (zupd μ 5 j v) := zpf_ok rfl
theorem vc_5 {r : Int} {μ : zMem} {K : Int → zMem → zRs} : zvc 10 5 (some (r, μ)) K = K r μ := zvc_ok rfl
theorem c_6 : zisC 5 6 = true := rfl
theorem gf_6 {j : Nat} {μ : zMem} {K : Int → zRs} : zgf 5 j 6 μ K = K (μ 6 j) := zgf_ok rfl
theorem pf_6 {j : Nat} {v : Int} {μ : zMem} {K : zMem → zRs} : zpf 5 j 6 v μ K = K (zupd μ 6 j v) := zpf_ok rfl
theorem vc_6 {r : Int} {μ : zMem} {K : Int → zMem → zRs} : zvc 5 6 (some (r, μ)) K = K r μ := zvc_ok rfl
theorem al_7 {j : Int} {μ : zMem} {K : Int → zRs} (h1 : 0 ≤ j) (h2 : j < 4) : zald 26 7 j μ K = K (μ 7 j) := zald_ok (n := 4) rfl (by decide) h1 h2
theorem ln_7 {K : Int → zRs} : zlen 26 7 K = K 4 := zlen_ok (n := 4) rfl (by decide)
theorem al_8 {j : Int} {μ : zMem} {K : Int → zRs} (h1 : 0 ≤ j) (h2 : j < 16) : zald 20 8 j μ K = K (μ 8 j) := zald_ok (n := 16) rfl (by decide) h1 h2
theorem as_8 {j v : Int} {μ : zMem} {K : zMem → zRs} (h1 : 0 ≤ j) (h2 : j < 16) : zast 20 8 j v μ K = K (zupd μ 8 j v) := zast_ok (n := 16) rfl (by decide) h1 h2
theorem ln_8 {K : Int → zRs} : zlen 20 8 K = K 16 := zlen_ok (n := 16) rfl (by decide)
theorem al_9 {j : Int} {μ : zMem} {K : Int → zRs} (h1 : 0 ≤ j) (h2 : j < 16) : zald 20 9 j μ K = K (μ 9 j) := zald_ok (n := 16) rfl (by decide) h1 h2
theorem as_9 {j v : Int} {μ : zMem} {K : zMem → zRs} (h1 : 0 ≤ j) (h2 : j < 16) : zast 20 9 j v μ K = K (zupd μ 9 j v) := zast_ok (n := 16) rfl (by decide) h1 h2
theorem ln_9 {K : Int → zRs} : zlen 20 9 K = K 16 := zlen_ok (n := 16) rfl (by decide)
theorem al_10 {j : Int} {μ : zMem} {K : Int → zRs} (h1 : 0 ≤ j) (h2 : j < 16) : zald 20 10 j μ K = K (μ 10 j) := zald_ok (n := 16) rfl (by decide) h1 h2
theorem as_10 {j v : Int} {μ : zMem} {K : zMem → zRs} (h1 : 0 ≤ j) (h2 : j < 16) : zast 20 10 j v μ K = K (zupd μ 10 j v) := zast_ok (n := 16) rfl (by decide) h1 h2
theorem ln_10 {K : Int → zRs} : zlen 20 10 K = K 16 := zlen_ok (n := 16) rfl (by decide)
theorem al_11 {j : Int} {μ : zMem} {K : Int → zRs} (h1 : 0 ≤ j) (h2 : j < 16) : zald 20 11 j μ K = K (μ 11 j) := zald_ok (n := 16) rfl (by decide) h1 h2
theorem as_11 {j v : Int} {μ : zMem} {K : zMem → zRs} (h1 : 0 ≤ j) (h2 : j < 16) : zast 20 11 j v μ K = K (zupd μ 11 j v) := zast_ok (n := 16) rfl (by decide) h1 h2
theorem ln_11 {K : Int → zRs} : zlen 20 11 K = K 16 := zlen_ok (n := 16) rfl (by decide)
theorem c_12 : zisC 2 12 = true := rfl
theorem gf_12 {j : Nat} {μ : zMem} {K : Int → zRs} : zgf 2 j 12 μ K = K (μ 12 j) := zgf_ok rfl
theorem pf_12 {j : Nat} {v : Int} {μ : zMem} {K : zMem → zRs} : zpf 2 j 12 v μ K = K (zupd μ 12 j v) := zpf_ok rfl
theorem vc_12 {r : Int} {μ : zMem} {K : Int → zMem → zRs} : zvc 2 12 (some (r, μ)) K = K r μ := zvc_ok rfl
theorem al_13 {j : Int} {μ : zMem} {K : Int → zRs} (h1 : 0 ≤ j) (h2 : j < 4) : zald 26 13 j μ K = K (μ 13 j) := zald_ok (n := 4) rfl (by decide) h1 h2
theorem ln_13 {K : Int → zRs} : zlen 26 13 K = K 4 := zlen_ok (n := 4) rfl (by decide)
theorem al_14 {j : Int} {μ : zMem} {K : Int → zRs} (h1 : 0 ≤ j) (h2 : j < 40) : zald 20 14 j μ K = K (μ 14 j) := zald_ok (n := 40) rfl (by decide) h1 h2
theorem as_14 {j v : Int} {μ : zMem} {K : zMem → zRs} (h1 : 0 ≤ j) (h2 : j < 40) : zast 20 14 j v μ K = K (zupd μ 14 j v) := zast_ok (n := 40) rfl (by decide) h1 h2
theorem ln_14 {K : Int → zRs} : zlen 20 14 K = K 40 := zlen_ok (n := 40) rfl (by decide)
theorem al_15 {j : Int} {μ : zMem} {K : Int → zRs} (h1 : 0 ≤ j) (h2 : j < 40) : zald 20 15 j μ K = K (μ 15 j) := zald_ok (n := 40) rfl (by decide) h1 h2
theorem as_15 {j v : Int} {μ : zMem} {K : zMem → zRs} (h1 : 0 ≤ j) (h2 : j < 40) : zast 20 15 j v μ K = K (zupd μ 15 j v) := zast_ok (n := 40) rfl (by decide) h1 h2
theorem ln_15 {K : Int → zRs} : zlen 20 15 K = K 40 := zlen_ok (n := 40) rfl (by decide)
theorem al_16 {j : Int} {μ : zMem} {K : Int → zRs} (h1 : 0 ≤ j) (h2 : j < 40) : zald 20 16 j μ K = K (μ 16 j) := zald_ok (n := 40) rfl (by decide) h1 h2
theorem as_16 {j v : Int} {μ : zMem} {K : zMem → zRs} (h1 : 0 ≤ j) (h2 : j < 40) : zast 20 16 j v μ K = K (zupd μ 16 j v) := zast_ok (n := 40) rfl (by decide) h1 h2
theorem ln_16 {K : Int → zRs} : zlen 20 16 K = K 40 := zlen_ok (n := 40) rfl (by decide)
theorem al_17 {j : Int} {μ : zMem} {K : Int → zRs} (h1 : 0 ≤ j) (h2 : j < 40) : zald 20 17 j μ K = K (μ 17 j) := zald_ok (n := 40) rfl (by decide) h1 h2
theorem as_17 {j v : Int} {μ : zMem} {K : zMem → zRs} (h1 : 0 ≤ j) (h2 : j < 40) : zast 20 17 j v μ K = K (zupd μ 17 j v) := zast_ok (n := 40) rfl (by decide) h1 h2
theorem ln_17 {K : Int → zRs} : zlen 20 17 K = K 40 := zlen_ok (n := 40) rfl (by decide)
theorem c_18 : zisC 9 18 = true := rfl
theorem gf_18 {j : Nat} {μ : zMem} {K : Int → zRs} : zgf 9 j 18 μ K = K (μ 18 j) := zgf_ok rfl
theorem pf_18 {j : Nat} {v : Int} {μ : zMem} {K : zMem → zRs} : zpf 9 j 18 v μ K = K (zupd μ 18 j v) := zpf_ok rfl
theorem vc_18 {r : Int} {μ : zMem} {K : Int → zMem → zRs} : zvc 9 18 (some (r, μ)) K = K r μ := zvc_ok rfl
theorem al_19 {j : Int} {μ : zMem} {K : Int → zRs} (h1 : 0 ≤ j) (h2 : j < 120) : zald 20 19 j μ K = K (μ 19 j) := zald_ok (n := 120) rfl (by decide) h1 h2
theorem as_19 {j v : Int} {μ : zMem} {K : zMem → zRs} (h1 : 0 ≤ j) (h2 : j < 120) : zast 20 19 j v μ K = K (zupd μ 19 j v) := zast_ok (n := 120) rfl (by decide) h1 h2
theorem ln_19 {K : Int → zRs} : zlen 20 19 K = K 120 := zlen_ok (n := 120) rfl (by decide)
theorem al_20 {j : Int} {μ : zMem} {K : Int → zRs} (h1 : 0 ≤ j) (h2 : j < 121) : zald 20 20 j μ K = K (μ 20 j) := zald_ok (n := 121) rfl (by decide) h1 h2
theorem as_20 {j v : Int} {μ : zMem} {K : zMem → zRs} (h1 : 0 ≤ j) (h2 : j < 121) : zast 20 20 j v μ K = K (zupd μ 20 j v) := zast_ok (n := 121) rfl (by decide) h1 h2
theorem ln_20 {K : Int → zRs} : zlen 20 20 K = K 121 := zlen_ok (n := 121) rfl (by decide)
theorem c_21 : zisC 3 21 = true := rfl
theorem gf_21 {j : Nat} {μ : zMem} {K : Int → zRs} : zgf 3 j 21 μ K = K (μ 21 j) := zgf_ok rfl
theorem pf_21 {j : Nat} {v : Int} {μ : zMem} {K : zMem → zRs} : zpf 3 j 21 v μ K = K (zupd μ 21 j v) := zpf_ok rfl
theorem vc_21 {r : Int} {μ : zMem} {K : Int → zMem → zRs} : zvc 3 21 (some (r, μ)) K = K r μ := zvc_ok rfl
theorem al_22 {j : Int} {μ : zMem} {K : Int → zRs} (h1 : 0 ≤ j) (h2 : j < 4) : zald 25 22 j μ K = K (μ 22 j) := zald_ok (n := 4) rfl (by decide) h1 h2
theorem ln_22 {K : Int → zRs} : zlen 25 22 K = K 4 := zlen_ok (n := 4) rfl (by decide)
theorem c_23 : zisC 7 23 = true := rfl
theorem gf_23 {j : Nat} {μ : zMem} {K : Int → zRs} : zgf 7 j 23 μ K = K (μ 23 j) := zgf_ok rfl
theorem pf_23 {j : Nat} {v : Int} {μ : zMem} {K : zMem → zRs} : zpf 7 j 23 v μ K = K (zupd μ 23 j v) := zpf_ok rfl
theorem vc_23 {r : Int} {μ : zMem} {K : Int → zMem → zRs} : zvc 7 23 (some (r, μ)) K = K r μ := zvc_ok rfl
theorem al_24 {j : Int} {μ : zMem} {K : Int → zRs} (h1 : 0 ≤ j) (h2 : j < 8) : zald 20 24 j μ K = K (μ 24 j) := zald_ok (n := 8) rfl (by decide) h1 h2
theorem as_24 {j v : Int} {μ : zMem} {K : zMem → zRs} (h1 : 0 ≤ j) (h2 : j < 8) : zast 20 24 j v μ K = K (zupd μ 24 j v) := zast_ok (n := 8) rfl (by decide) h1 h2
theorem ln_24 {K : Int → zRs} : zlen 20 24 K = K 8 := zlen_ok (n := 8) rfl (by decide)
theorem al_25 {j : Int} {μ : zMem} {K : Int → zRs} (h1 : 0 ≤ j) (h2 : j < 64) : zald 20 25 j μ K = K (μ 25 j) := zald_ok (n := 64) rfl (by decide) h1 h2
theorem as_25 {j v : Int} {μ : zMem} {K : zMem → zRs} (h1 : 0 ≤ j) (h2 : j < 64) : zast 20 25 j v μ K = K (zupd μ 25 j v) := zast_ok (n := 64) rfl (by decide) h1 h2
theorem ln_25 {K : Int → zRs} : zlen 20 25 K = K 64 := zlen_ok (n := 64) rfl (by decide)
theorem c_34 : zisC 1 34 = true := rfl
theorem gf_34 {j : Nat} {μ : zMem} {K : Int → zRs} : zgf 1 j 34 μ K = K (μ 34 j) := zgf_ok rfl
theorem pf_34 {j : Nat} {v : Int} {μ : zMem} {K : zMem → zRs} : zpf 1 j 34 v μ K = K (zupd μ 34 j v) := zpf_ok rfl
theorem vc_34 {r : Int} {μ : zMem} {K : Int → zMem → zRs} : zvc 1 34 (some (r, μ)) K = K r μ := zvc_ok rfl
theorem al_35 {j : Int} {μ : zMem} {K : Int → zRs} (h1 : 0 ≤ j) (h2 : j < 10) : zald 24 35 j μ K = K (μ 35 j) := zald_ok (n := 10) rfl (by decide) h1 h2
theorem ln_35 {K : Int → zRs} : zlen 24 35 K = K 10 := zlen_ok (n := 10) rfl (by decide)
theorem al_36 {j : Int} {μ : zMem} {K : Int → zRs} (h1 : 0 ≤ j) (h2 : j < 16) : zald 26 36 j μ K = K (μ 36 j) := zald_ok (n := 16) rfl (by decide) h1 h2
theorem ln_36 {K : Int → zRs} : zlen 26 36 K = K 16 := zlen_ok (n := 16) rfl (by decide)
theorem al_37 {j : Int} {μ : zMem} {K : Int → zRs} (h1 : 0 ≤ j) (h2 : j < 16) : zald 20 37 j μ K = K (μ 37 j) := zald_ok (n := 16) rfl (by decide) h1 h2
theorem as_37 {j v : Int} {μ : zMem} {K : zMem → zRs} (h1 : 0 ≤ j) (h2 : j < 16) : zast 20 37 j v μ K = K (zupd μ 37 j v) := zast_ok (n := 16) rfl (by decide) h1 h2
theorem ln_37 {K : Int → zRs} : zlen 20 37 K = K 16 := zlen_ok (n := 16) rfl (by decide)
theorem al_38 {j : Int} {μ : zMem} {K : Int → zRs} (h1 : 0 ≤ j) (h2 : j < 16) : zald 20 38 j μ K = K (μ 38 j) := zald_ok (n := 16) rfl (by decide) h1 h2
theorem as_38 {j v : Int} {μ : zMem} {K : zMem → zRs} (h1 : 0 ≤ j) (h2 : j < 16) : zast 20 38 j v μ K = K (zupd μ 38 j v) := zast_ok (n := 16) rfl (by decide) h1 h2
theorem ln_38 {K : Int → zRs} : zlen 20 38 K = K 16 := zlen_ok (n := 16) rfl (by decide)
theorem al_39 {j : Int} {μ : zMem} {K : Int → zRs} (h1 : 0 ≤ j) (h2 : j < 16) : zald 20 39 j μ K = K (μ 39 j) := zald_ok (n := 16) rfl (by decide) h1 h2
theorem as_39 {j v : Int} {μ : zMem} {K : zMem → zRs} (h1 : 0 ≤ j) (h2 : j < 16) : zast 20 39 j v μ K = K (zupd μ 39 j v) := zast_ok (n := 16) rfl (by decide) h1 h2
theorem ln_39 {K : Int → zRs} : zlen 20 39 K = K 16 := zlen_ok (n := 16) rfl (by decide)
theorem al_40 {j : Int} {μ : zMem} {K : Int → zRs} (h1 : 0 ≤ j) (h2 : j < 16) : zald 20 40 j μ K = K (μ 40 j) := zald_ok (n := 16) rfl (by decide) h1 h2
theorem as_40 {j v : Int} {μ : zMem} {K : zMem → zRs} (h1 : 0 ≤ j) (h2 : j < 16) : zast 20 40 j v μ K = K (zupd μ 40 j v) := zast_ok (n := 16) rfl (by decide) h1 h2
theorem ln_40 {K : Int → zRs} : zlen 20 40 K = K 16 := zlen_ok (n := 16) rfl (by decide)
theorem al_41 {j : Int} {μ : zMem} {K : Int → zRs} (h1 : 0 ≤ j) (h2 : j < 16) : zald 20 41 j μ K = K (μ 41 j) := zald_ok (n := 16) rfl (by decide) h1 h2
theorem as_41 {j v : Int} {μ : zMem} {K : zMem → zRs} (h1 : 0 ≤ j) (h2 : j < 16) : zast 20 41 j v μ K = K (zupd μ 41 j v) := zast_ok (n := 16) rfl (by decide) h1 h2
theorem ln_41 {K : Int → zRs} : zlen 20 41 K = K 16 := zlen_ok (n := 16) rfl (by decide)
theorem al_42 {j : Int} {μ : zMem} {K : Int → zRs} (h1 : 0 ≤ j) (h2 : j < 16) : zald 20 42 j μ K = K (μ 42 j) := zald_ok (n := 16) rfl (by decide) h1 h2
theorem as_42 {j v : Int} {μ : zMem} {K : zMem → zRs} (h1 : 0 ≤ j) (h2 : j < 16) : zast 20 42 j v μ K = K (zupd μ 42 j v) := zast_ok (n := 16) rfl (by decide) h1 h2
theorem ln_42 {K : Int → zRs} : zlen 20 42 K = K 16 := zlen_ok (n := 16) rfl (by decide)
theorem al_43 {j : Int} {μ : zMem} {K : Int → zRs} (h1 : 0 ≤ j) (h2 : j < 16) : zald 20 43 j μ K = K (μ 43 j) := zald_ok (n := 16) rfl (by decide) h1 h2
theorem as_43 {j v : Int} {μ : zMem} {K : zMem → zRs} (h1 : 0 ≤ j) (h2 : j < 16) : zast 20 43 j v μ K = K (zupd μ 43 j v) := zast_ok (n := 16) rfl (by decide) h1 h2
theorem ln_43 {K : Int → zRs} : zlen 20 43 K = K 16 := zlen_ok (n := 16) rfl (by decide)
theorem al_44 {j : Int} {μ : zMem} {K : Int → zRs} (h1 : 0 ≤ j) (h2 : j < 16) : zald 20 44 j μ K = K (μ 44 j) := zald_ok (n := 16) rfl (by decide) h1 h2
theorem as_44 {j v : Int} {μ : zMem} {K : zMem → zRs} (h1 : 0 ≤ j) (h2 : j < 16) : zast 20 44 j v μ K = K (zupd μ 44 j v) := zast_ok (n := 16) rfl (by decide) h1 h2
theorem ln_44 {K : Int → zRs} : zlen 20 44 K = K 16 := zlen_ok (n := 16) rfl (by decide)
theorem al_45 {j : Int} {μ : zMem} {K : Int → zRs} (h1 : 0 ≤ j) (h2 : j < 16) : zald 20 45 j μ K = K (μ 45 j) := zald_ok (n := 16) rfl (by decide) h1 h2
theorem as_45 {j v : Int} {μ : zMem} {K : zMem → zRs} (h1 : 0 ≤ j) (h2 : j < 16) : zast 20 45 j v μ K = K (zupd μ 45 j v) := zast_ok (n := 16) rfl (by decide) h1 h2
theorem ln_45 {K : Int → zRs} : zlen 20 45 K = K 16 := zlen_ok (n := 16) rfl (by decide)
theorem al_46 {j : Int} {μ : zMem} {K : Int → zRs} (h1 : 0 ≤ j) (h2 : j < 16) : zald 20 46 j μ K = K (μ 46 j) := zald_ok (n := 16) rfl (by decide) h1 h2
theorem as_46 {j v : Int} {μ : zMem} {K : zMem → zRs} (h1 : 0 ≤ j) (h2 : j < 16) : zast 20 46 j v μ K = K (zupd μ 46 j v) := zast_ok (n := 16) rfl (by decide) h1 h2
theorem ln_46 {K : Int → zRs} : zlen 20 46 K = K 16 := zlen_ok (n := 16) rfl (by decide)
theorem al_47 {j : Int} {μ : zMem} {K : Int → zRs} (h1 : 0 ≤ j) (h2 : j < 16) : zald 20 47 j μ K = K (μ 47 j) := zald_ok (n := 16) rfl (by decide) h1 h2
theorem as_47 {j v : Int} {μ : zMem} {K : zMem → zRs} (h1 : 0 ≤ j) (h2 : j < 16) : zast 20 47 j v μ K = K (zupd μ 47 j v) := zast_ok (n := 16) rfl (by decide) h1 h2
theorem ln_47 {K : Int → zRs} : zlen 20 47 K = K 16 := zlen_ok (n := 16) rfl (by decide)
theorem al_48 {j : Int} {μ : zMem} {K : Int → zRs} (h1 : 0 ≤ j) (h2 : j < 16) : zald 20 48 j μ K = K (μ 48 j) := zald_ok (n := 16) rfl (by decide) h1 h2
theorem as_48 {j v : Int} {μ : zMem} {K : zMem → zRs} (h1 : 0 ≤ j) (h2 : j < 16) : zast 20 48 j v μ K = K (zupd μ 48 j v) := zast_ok (n := 16) rfl (by decide) h1 h2
theorem ln_48 {K : Int → zRs} : zlen 20 48 K = K 16 := zlen_ok (n := 16) rfl (by decide)
theorem al_49 {j : Int} {μ : zMem} {K : Int → zRs} (h1 : 0 ≤ j) (h2 : j < 16) : zald 20 49 j μ K = K (μ 49 j) := zald_ok (n := 16) rfl (by decide) h1 h2
theorem as_49 {j v : Int} {μ : zMem} {K : zMem → zRs} (h1 : 0 ≤ j) (h2 : j < 16) : zast 20 49 j v μ K = K (zupd μ 49 j v) := zast_ok (n := 16) rfl (by decide) h1 h2
theorem ln_49 {K : Int → zRs} : zlen 20 49 K = K 16 := zlen_ok (n := 16) rfl (by decide)
theorem al_50 {j : Int} {μ : zMem} {K : Int → zRs} (h1 : 0 ≤ j) (h2 : j < 16) : zald 20 50 j μ K = K (μ 50 j) := zald_ok (n := 16) rfl (by decide) h1 h2
theorem as_50 {j v : Int} {μ : zMem} {K : zMem → zRs} (h1 : 0 ≤ j) (h2 : j < 16) : zast 20 50 j v μ K = K (zupd μ 50 j v) := zast_ok (n := 16) rfl (by decide) h1 h2
theorem ln_50 {K : Int → zRs} : zlen 20 50 K = K 16 := zlen_ok (n := 16) rfl (by decide)
theorem al_51 {j : Int} {μ : zMem} {K : Int → zRs} (h1 : 0 ≤ j) (h2 : j < 16) : zald 20 51 j μ K = K (μ 51 j) := zald_ok (n := 16) rfl (by decide) h1 h2
theorem as_51 {j v : Int} {μ : zMem} {K : zMem → zRs} (h1 : 0 ≤ j) (h2 : j < 16) : zast 20 51 j v μ K = K (zupd μ 51 j v) := zast_ok (n := 16) rfl (by decide) h1 h2
theorem ln_51 {K : Int → zRs} : zlen 20 51 K = K 16 := zlen_ok (n := 16) rfl (by decide)
theorem al_52 {j : Int} {μ : zMem} {K : Int → zRs} (h1 : 0 ≤ j) (h2 : j < 16) : zald 20 52 j μ K = K (μ 52 j) := zald_ok (n := 16) rfl (by decide) h1 h2
theorem as_52 {j v : Int} {μ : zMem} {K : zMem → zRs} (h1 : 0 ≤ j) (h2 : j < 16) : zast 20 52 j v μ K = K (zupd μ 52 j v) := zast_ok (n := 16) rfl (by decide) h1 h2
theorem ln_52 {K : Int → zRs} : zlen 20 52 K = K 16 := zlen_ok (n := 16) rfl (by decide)
theorem c_113 : zisC 0 113 = true := rfl
theorem gf_113 {j : Nat} {μ : zMem} {K : Int → zRs} : zgf 0 j 113 μ K = K (μ 113 j) := zgf_ok rfl
theorem pf_113 {j : Nat} {v : Int} {μ : zMem} {K : zMem → zRs} : zpf 0 j 113 v μ K = K (zupd μ 113 j v) := zpf_ok rfl
theorem vc_113 {r : Int} {μ : zMem} {K : Int → zMem → zRs} : zvc 0 113 (some (r, μ)) K = K r μ := zvc_ok rfl
theorem al_114 {j : Int} {μ : zMem} {K : Int → zRs} (h1 : 0 ≤ j) (h2 : j < 50) : zald 20 114 j μ K = K (μ 114 j) := zald_ok (n := 50) rfl (by decide) h1 h2
theorem as_114 {j v : Int} {μ : zMem} {K : zMem → zRs} (h1 : 0 ≤ j) (h2 : j < 50) : zast 20 114 j v μ K = K (zupd μ 114 j v) := zast_ok (n := 50) rfl (by decide) h1 h2
theorem ln_114 {K : Int → zRs} : zlen 20 114 K = K 50 := zlen_ok (n := 50) rfl (by decide)
theorem al_115 {j : Int} {μ : zMem} {K : Int → zRs} (h1 : 0 ≤ j) (h2 : j < 24) : zald 20 115 j μ K = K (μ 115 j) := zald_ok (n := 24) rfl (by decide) h1 h2
theorem as_115 {j v : Int} {μ : zMem} {K : zMem → zRs} (h1 : 0 ≤ j) (h2 : j < 24) : zast 20 115 j v μ K = K (zupd μ 115 j v) := zast_ok (n := 24) rfl (by decide) h1 h2
theorem ln_115 {K : Int → zRs} : zlen 20 115 K = K 24 := zlen_ok (n := 24) rfl (by decide)
theorem al_116 {j : Int} {μ : zMem} {K : Int → zRs} (h1 : 0 ≤ j) (h2 : j < 6) : zald 23 116 j μ K = K (μ 116 j) := zald_ok (n := 6) rfl (by decide) h1 h2
theorem ln_116 {K : Int → zRs} : zlen 23 116 K = K 6 := zlen_ok (n := 6) rfl (by decide)
theorem c_129 : zisC 11 129 = true := rfl
theorem gf_129 {j : Nat} {μ : zMem} {K : Int → zRs} : zgf 11 j 129 μ K = K (μ 129 j) := zgf_ok rfl
theorem pf_129 {j : Nat} {v : Int} {μ : zMem} {K : zMem → zRs} : zpf 11 j 129 v μ K = K (zupd μ 129 j v) := zpf_ok rfl
theorem vc_129 {r : Int} {μ : zMem} {K : Int → zMem → zRs} : zvc 11 129 (some (r, μ)) K = K r μ := zvc_ok rfl
theorem al_130 {j : Int} {μ : zMem} {K : Int → zRs} (h1 : 0 ≤ j) (h2 : j < 64) : zald 20 130 j μ K = K (μ 130 j) := zald_ok (n := 64) rfl (by decide) h1 h2
theorem as_130 {j v : Int} {μ : zMem} {K : zMem → zRs} (h1 : 0 ≤ j) (h2 : j < 64) : zast 20 130 j v μ K = K (zupd μ 130 j v) := zast_ok (n := 64) rfl (by decide) h1 h2
theorem ln_130 {K : Int → zRs} : zlen 20 130 K = K 64 := zlen_ok (n := 64) rfl (by decide)
theorem al_131 {j : Int} {μ : zMem} {K : Int → zRs} (h1 : 0 ≤ j) (h2 : j < 40) : zald 20 131 j μ K = K (μ 131 j) := zald_ok (n := 40) rfl (by decide) h1 h2
theorem as_131 {j v : Int} {μ : zMem} {K : zMem → zRs} (h1 : 0 ≤ j) (h2 : j < 40) : zast 20 131 j v μ K = K (zupd μ 131 j v) := zast_ok (n := 40) rfl (by decide) h1 h2
theorem ln_131 {K : Int → zRs} : zlen 20 131 K = K 40 := zlen_ok (n := 40) rfl (by decide)
theorem al_132 {j : Int} {μ : zMem} {K : Int → zRs} (h1 : 0 ≤ j) (h2 : j < 40) : zald 20 132 j μ K = K (μ 132 j) := zald_ok (n := 40) rfl (by decide) h1 h2
theorem as_132 {j v : Int} {μ : zMem} {K : zMem → zRs} (h1 : 0 ≤ j) (h2 : j < 40) : zast 20 132 j v μ K = K (zupd μ 132 j v) := zast_ok (n := 40) rfl (by decide) h1 h2
theorem ln_132 {K : Int → zRs} : zlen 20 132 K = K 40 := zlen_ok (n := 40) rfl (by decide)
theorem al_133 {j : Int} {μ : zMem} {K : Int → zRs} (h1 : 0 ≤ j) (h2 : j < 40) : zald 20 133 j μ K = K (μ 133 j) := zald_ok (n := 40) rfl (by decide) h1 h2
theorem as_133 {j v : Int} {μ : zMem} {K : zMem → zRs} (h1 : 0 ≤ j) (h2 : j < 40) : zast 20 133 j v μ K = K (zupd μ 133 j v) := zast_ok (n := 40) rfl (by decide) h1 h2
theorem ln_133 {K : Int → zRs} : zlen 20 133 K = K 40 := zlen_ok (n := 40) rfl (by decide)
theorem al_134 {j : Int} {μ : zMem} {K : Int → zRs} (h1 : 0 ≤ j) (h2 : j < 120) : zald 20 134 j μ K = K (μ 134 j) := zald_ok (n := 120) rfl (by decide) h1 h2
theorem as_134 {j v : Int} {μ : zMem} {K : zMem → zRs} (h1 : 0 ≤ j) (h2 : j < 120) : zast 20 134 j v μ K = K (zupd μ 134 j v) := zast_ok (n := 120) rfl (by decide) h1 h2
theorem ln_134 {K : Int → zRs} : zlen 20 134 K = K 120 := zlen_ok (n := 120) rfl (by decide)
theorem al_135 {j : Int} {μ : zMem} {K : Int → zRs} (h1 : 0 ≤ j) (h2 : j < 4) : zald 20 135 j μ K = K (μ 135 j) := zald_ok (n := 4) rfl (by decide) h1 h2
theorem as_135 {j v : Int} {μ : zMem} {K : zMem → zRs} (h1 : 0 ≤ j) (h2 : j < 4) : zast 20 135 j v μ K = K (zupd μ 135 j v) := zast_ok (n := 4) rfl (by decide) h1 h2
theorem ln_135 {K : Int → zRs} : zlen 20 135 K = K 4 := zlen_ok (n := 4) rfl (by decide)
theorem al_136 {j : Int} {μ : zMem} {K : Int → zRs} (h1 : 0 ≤ j) (h2 : j < 4) : zald 20 136 j μ K = K (μ 136 j) := zald_ok (n := 4) rfl (by decide) h1 h2
theorem as_136 {j v : Int} {μ : zMem} {K : zMem → zRs} (h1 : 0 ≤ j) (h2 : j < 4) : zast 20 136 j v μ K = K (zupd μ 136 j v) := zast_ok (n := 4) rfl (by decide) h1 h2
theorem ln_136 {K : Int → zRs} : zlen 20 136 K = K 4 := zlen_ok (n := 4) rfl (by decide)
theorem al_137 {j : Int} {μ : zMem} {K : Int → zRs} (h1 : 0 ≤ j) (h2 : j < 480) : zald 20 137 j μ K = K (μ 137 j) := zald_ok (n := 480) rfl (by decide) h1 h2
theorem as_137 {j v : Int} {μ : zMem} {K : zMem → zRs} (h1 : 0 ≤ j) (h2 : j < 480) : zast 20 137 j v μ K = K (zupd μ 137 j v) := zast_ok (n := 480) rfl (by decide) h1 h2
theorem ln_137 {K : Int → zRs} : zlen 20 137 K = K 480 := zlen_ok (n := 480) rfl (by decide)
theorem al_138 {j : Int} {μ : zMem} {K : Int → zRs} (h1 : 0 ≤ j) (h2 : j < 4) : zald 20 138 j μ K = K (μ 138 j) := zald_ok (n := 4) rfl (by decide) h1 h2
theorem as_138 {j v : Int} {μ : zMem} {K : zMem → zRs} (h1 : 0 ≤ j) (h2 : j < 4) : zast 20 138 j v μ K = K (zupd μ 138 j v) := zast_ok (n := 4) rfl (by decide) h1 h2
theorem ln_138 {K : Int → zRs} : zlen 20 138 K = K 4 := zlen_ok (n := 4) rfl (by decide)
theorem al_139 {j : Int} {μ : zMem} {K : Int → zRs} (h1 : 0 ≤ j) (h2 : j < 8) : zald 20 139 j μ K = K (μ 139 j) := zald_ok (n := 8) rfl (by decide) h1 h2
theorem as_139 {j v : Int} {μ : zMem} {K : zMem → zRs} (h1 : 0 ≤ j) (h2 : j < 8) : zast 20 139 j v μ K = K (zupd μ 139 j v) := zast_ok (n := 8) rfl (by decide) h1 h2
theorem ln_139 {K : Int → zRs} : zlen 20 139 K = K 8 := zlen_ok (n := 8) rfl (by decide)
theorem al_140 {j : Int} {μ : zMem} {K : Int → zRs} (h1 : 0 ≤ j) (h2 : j < 10) : zald 20 140 j μ K = K (μ 140 j) := zald_ok (n := 10) rfl (by decide) h1 h2
theorem as_140 {j v : Int} {μ : zMem} {K : zMem → zRs} (h1 : 0 ≤ j) (h2 : j < 10) : zast 20 140 j v μ K = K (zupd μ 140 j v) := zast_ok (n := 10) rfl (by decide) h1 h2
theorem ln_140 {K : Int → zRs} : zlen 20 140 K = K 10 := zlen_ok (n := 10) rfl (by decide)
theorem al_141 {j : Int} {μ : zMem} {K : Int → zRs} (h1 : 0 ≤ j) (h2 : j < 10) : zald 20 141 j μ K = K (μ 141 j) := zald_ok (n := 10) rfl (by decide) h1 h2
theorem as_141 {j v : Int} {μ : zMem} {K : zMem → zRs} (h1 : 0 ≤ j) (h2 : j < 10) : zast 20 141 j v μ K = K (zupd μ 141 j v) := zast_ok (n := 10) rfl (by decide) h1 h2
theorem ln_141 {K : Int → zRs} : zlen 20 141 K = K 10 := zlen_ok (n := 10) rfl (by decide)
theorem al_142 {j : Int} {μ : zMem} {K : Int → zRs} (h1 : 0 ≤ j) (h2 : j < 160) : zald 20 142 j μ K = K (μ 142 j) := zald_ok (n := 160) rfl (by decide) h1 h2
theorem as_142 {j v : Int} {μ : zMem} {K : zMem → zRs} (h1 : 0 ≤ j) (h2 : j < 160) : zast 20 142 j v μ K = K (zupd μ 142 j v) := zast_ok (n := 160) rfl (by decide) h1 h2
theorem ln_142 {K : Int → zRs} : zlen 20 142 K = K 160 := zlen_ok (n := 160) rfl (by decide)
theorem al_143 {j : Int} {μ : zMem} {K : Int → zRs} (h1 : 0 ≤ j) (h2 : j < 160) : zald 20 143 j μ K = K (μ 143 j) := zald_ok (n := 160) rfl (by decide) h1 h2
theorem as_143 {j v : Int} {μ : zMem} {K : zMem → zRs} (h1 : 0 ≤ j) (h2 : j < 160) : zast 20 143 j v μ K = K (zupd μ 143 j v) := zast_ok (n := 160) rfl (by decide) h1 h2
theorem ln_143 {K : Int → zRs} : zlen 20 143 K = K 160 := zlen_ok (n := 160) rfl (by decide)
theorem al_144 {j : Int} {μ : zMem} {K : Int → zRs} (h1 : 0 ≤ j) (h2 : j < 160) : zald 20 144 j μ K = K (μ 144 j) := zald_ok (n := 160) rfl (by decide) h1 h2
theorem as_144 {j v : Int} {μ : zMem} {K : zMem → zRs} (h1 : 0 ≤ j) (h2 : j < 160) : zast 20 144 j v μ K = K (zupd μ 144 j v) := zast_ok (n := 160) rfl (by decide) h1 h2
theorem ln_144 {K : Int → zRs} : zlen 20 144 K = K 160 := zlen_ok (n := 160) rfl (by decide)
theorem al_145 {j : Int} {μ : zMem} {K : Int → zRs} (h1 : 0 ≤ j) (h2 : j < 160) : zald 22 145 j μ K = K (μ 145 j) := zald_ok (n := 160) rfl (by decide) h1 h2
theorem as_145 {j v : Int} {μ : zMem} {K : zMem → zRs} (h1 : 0 ≤ j) (h2 : j < 160) : zast 22 145 j v μ K = K (zupd μ 145 j v) := zast_ok (n := 160) rfl (by decide) h1 h2
theorem ln_145 {K : Int → zRs} : zlen 22 145 K = K 160 := zlen_ok (n := 160) rfl (by decide)
theorem al_146 {j : Int} {μ : zMem} {K : Int → zRs} (h1 : 0 ≤ j) (h2 : j < 50) : zald 20 146 j μ K = K (μ 146 j) := zald_ok (n := 50) rfl (by decide) h1 h2
theorem as_146 {j v : Int} {μ : zMem} {K : zMem → zRs} (h1 : 0 ≤ j) (h2 : j < 50) : zast 20 146 j v μ K = K (zupd μ 146 j v) := zast_ok (n := 50) rfl (by decide) h1 h2
theorem ln_146 {K : Int → zRs} : zlen 20 146 K = K 50 := zlen_ok (n := 50) rfl (by decide)
theorem al_147 {j : Int} {μ : zMem} {K : Int → zRs} (h1 : 0 ≤ j) (h2 : j < 24) : zald 20 147 j μ K = K (μ 147 j) := zald_ok (n := 24) rfl (by decide) h1 h2
theorem as_147 {j v : Int} {μ : zMem} {K : zMem → zRs} (h1 : 0 ≤ j) (h2 : j < 24) : zast 20 147 j v μ K = K (zupd μ 147 j v) := zast_ok (n := 24) rfl (by decide) h1 h2
theorem ln_147 {K : Int → zRs} : zlen 20 147 K = K 24 := zlen_ok (n := 24) rfl (by decide)
theorem al_148 {j : Int} {μ : zMem} {K : Int → zRs} (h1 : 0 ≤ j) (h2 : j < 6) : zald 20 148 j μ K = K (μ 148 j) := zald_ok (n := 6) rfl (by decide) h1 h2
theorem as_148 {j v : Int} {μ : zMem} {K : zMem → zRs} (h1 : 0 ≤ j) (h2 : j < 6) : zast 20 148 j v μ K = K (zupd μ 148 j v) := zast_ok (n := 6) rfl (by decide) h1 h2
theorem ln_148 {K : Int → zRs} : zlen 20 148 K = K 6 := zlen_ok (n := 6) rfl (by decide)
theorem al_149 {j : Int} {μ : zMem} {K : Int → zRs} (h1 : 0 ≤ j) (h2 : j < 6) : zald 20 149 j μ K = K (μ 149 j) := zald_ok (n := 6) rfl (by decide) h1 h2
theorem as_149 {j v : Int} {μ : zMem} {K : zMem → zRs} (h1 : 0 ≤ j) (h2 : j < 6) : zast 20 149 j v μ K = K (zupd μ 149 j v) := zast_ok (n := 6) rfl (by decide) h1 h2
theorem ln_149 {K : Int → zRs} : zlen 20 149 K = K 6 := zlen_ok (n := 6) rfl (by decide)
theorem al_150 {j : Int} {μ : zMem} {K : Int → zRs} (h1 : 0 ≤ j) (h2 : j < 360) : zald 21 150 j μ K = K (μ 150 j) := zald_ok (n := 360) rfl (by decide) h1 h2
theorem as_150 {j v : Int} {μ : zMem} {K : zMem → zRs} (h1 : 0 ≤ j) (h2 : j < 360) : zast 21 150 j v μ K = K (zupd μ 150 j v) := zast_ok (n := 360) rfl (by decide) h1 h2
theorem ln_150 {K : Int → zRs} : zlen 21 150 K = K 360 := zlen_ok (n := 360) rfl (by decide)
theorem al_151 {j : Int} {μ : zMem} {K : Int → zRs} (h1 : 0 ≤ j) (h2 : j < 60) : zald 21 151 j μ K = K (μ 151 j) := zald_ok (n := 60) rfl (by decide) h1 h2
theorem as_151 {j v : Int} {μ : zMem} {K : zMem → zRs} (h1 : 0 ≤ j) (h2 : j < 60) : zast 21 151 j v μ K = K (zupd μ 151 j v) := zast_ok (n := 60) rfl (by decide) h1 h2
theorem ln_151 {K : Int → zRs} : zlen 21 151 K = K 60 := zlen_ok (n := 60) rfl (by decide)
theorem al_1 {j : Int} {μ : zMem} {K : Int → zRs} (h1 : 0 ≤ j) (h2 : j < 4) : zald 20 1 j μ K = K (μ 1 j) := zald_ok (n := 4) rfl (by decide) h1 h2
theorem al_2 {j : Int} {μ : zMem} {K : Int → zRs} (h1 : 0 ≤ j) (h2 : j < 4) : zald 20 2 j μ K = K (μ 2 j) := zald_ok (n := 4) rfl (by decide) h1 h2
theorem al_3 {j : Int} {μ : zMem} {K : Int → zRs} (h1 : 0 ≤ j) (h2 : j < 8) : zald 20 3 j μ K = K (μ 3 j) := zald_ok (n := 8) rfl (by decide) h1 h2
theorem al_4 {j : Int} {μ : zMem} {K : Int → zRs} (h1 : 0 ≤ j) (h2 : j < 32) : zald 20 4 j μ K = K (μ 4 j) := zald_ok (n := 32) rfl (by decide) h1 h2
theorem tg_7 (j : Int) : ztag 7 j = 500 := rfl
theorem tg_8 (j : Int) : ztag 8 j = 500 := rfl
theorem tg_9 (j : Int) : ztag 9 j = 500 := rfl
theorem tg_10 (j : Int) : ztag 10 j = 500 := rfl
theorem tg_11 (j : Int) : ztag 11 j = 500 := rfl
theorem tg_13 (j : Int) : ztag 13 j = 200 := rfl
theorem tg_14 (j : Int) : ztag 14 j = 200 := rfl
theorem tg_15 (j : Int) : ztag 15 j = 200 := rfl
theorem tg_16 (j : Int) : ztag 16 j = 200 := rfl
theorem tg_17 (j : Int) : ztag 17 j = 200 := rfl
theorem tg_19 (j : Int) : ztag 19 j = 900 := rfl
theorem tg_20 (j : Int) : ztag 20 j = 901 := rfl
theorem tg_22 (j : Int) : ztag 22 j = 302 := rfl
theorem tg_24 (j : Int) : ztag 24 j = 701 := rfl
theorem tg_25 (j : Int) : ztag 25 j = 702 := rfl
theorem tg_35 (j : Int) : ztag 35 j = 101 := rfl
theorem tg_36 (j : Int) : ztag 36 j = 102 := rfl
theorem tg_37 (j : Int) : ztag 37 j = 102 := rfl
theorem tg_38 (j : Int) : ztag 38 j = 102 := rfl
theorem tg_39 (j : Int) : ztag 39 j = 102 := rfl
theorem tg_40 (j : Int) : ztag 40 j = 102 := rfl
theorem tg_41 (j : Int) : ztag 41 j = 102 := rfl
theorem tg_42 (j : Int) : ztag 42 j = 102 := rfl
theorem tg_43 (j : Int) : ztag 43 j = 102 := rfl
theorem tg_44 (j : Int) : ztag 44 j = 102 := rfl
theorem tg_45 (j : Int) : ztag 45 j = 102 := rfl
theorem tg_46 (j : Int) : ztag 46 j = 102 := rfl
theorem tg_47 (j : Int) : ztag 47 j = 102 := rfl
theorem tg_48 (j : Int) : ztag 48 j = 102 := rfl
theorem tg_49 (j : Int) : ztag 49 j = 102 := rfl
theorem tg_50 (j : Int) : ztag 50 j = 102 := rfl
theorem tg_51 (j : Int) : ztag 51 j = 102 := rfl
theorem tg_52 (j : Int) : ztag 52 j = 102 := rfl
theorem tg_114 (j : Int) : ztag 114 j = 0 := rfl
theorem tg_115 (j : Int) : ztag 115 j = 1 := rfl
theorem tg_116 (j : Int) : ztag 116 j = 1006 := rfl
theorem tg_130 (j : Int) : ztag 130 j = 1100 := rfl
theorem tg_131 (j : Int) : ztag 131 j = 1101 := rfl
theorem tg_132 (j : Int) : ztag 132 j = 1102 := rfl
theorem tg_133 (j : Int) : ztag 133 j = 1103 := rfl
theorem tg_134 (j : Int) : ztag 134 j = 1107 := rfl
theorem tg_135 (j : Int) : ztag 135 j = 1110 := rfl
theorem tg_136 (j : Int) : ztag 136 j = 1111 := rfl
theorem tg_137 (j : Int) : ztag 137 j = 1112 := rfl
theorem tg_138 (j : Int) : ztag 138 j = 1113 := rfl
theorem tg_139 (j : Int) : ztag 139 j = 1119 := rfl
theorem tg_140 (j : Int) : ztag 140 j = 1121 := rfl
theorem tg_141 (j : Int) : ztag 141 j = 1122 := rfl
theorem tg_142 (j : Int) : ztag 142 j = 1123 := rfl
theorem tg_143 (j : Int) : ztag 143 j = 1124 := rfl
theorem tg_144 (j : Int) : ztag 144 j = 1125 := rfl
theorem tg_145 (j : Int) : ztag 145 j = 1126 := rfl
theorem tg_146 (j : Int) : ztag 146 j = 1128 := rfl
theorem tg_147 (j : Int) : ztag 147 j = 1129 := rfl
theorem tg_148 (j : Int) : ztag 148 j = 1133 := rfl
theorem tg_149 (j : Int) : ztag 149 j = 1134 := rfl
theorem tg_150 (j : Int) : ztag 150 j = 1135 := rfl
theorem tg_151 (j : Int) : ztag 151 j = 1136 := rfl
theorem tf_5_0 : ztag 5 0 = 1000 := rfl
theorem tf_5_1 : ztag 5 1 = 1001 := rfl
theorem tf_5_2 : ztag 5 2 = 1002 := rfl
theorem tf_5_3 : ztag 5 3 = 1003 := rfl
theorem tf_5_4 : ztag 5 4 = 1004 := rfl
theorem tf_5_5 : ztag 5 5 = 1005 := rfl
theorem tf_5_6 : ztag 5 6 = 1006 := rfl
theorem tf_6_0 : ztag 6 0 = 500 := rfl
theorem tf_6_1 : ztag 6 1 = 501 := rfl
theorem tf_12_0 : ztag 12 0 = 200 := rfl
theorem tf_12_1 : ztag 12 1 = 201 := rfl
theorem tf_12_2 : ztag 12 2 = 202 := rfl
theorem tf_18_0 : ztag 18 0 = 900 := rfl
theorem tf_18_1 : ztag 18 1 = 901 := rfl
theorem tf_18_2 : ztag 18 2 = 902 := rfl
theorem tf_18_3 : ztag 18 3 = 903 := rfl
theorem tf_18_4 : ztag 18 4 = 904 := rfl
theorem tf_18_5 : ztag 18 5 = 905 := rfl
theorem tf_21_0 : ztag 21 0 = 300 := rfl
theorem tf_21_1 : ztag 21 1 = 301 := rfl
theorem tf_21_2 : ztag 21 2 = 302 := rfl
theorem tf_21_3 : ztag 21 3 = 303 := rfl
theorem tf_23_0 : ztag 23 0 = 700 := rfl
theorem tf_23_1 : ztag 23 1 = 701 := rfl
theorem tf_23_2 : ztag 23 2 = 702 := rfl
theorem tf_23_3 : ztag 23 3 = 703 := rfl
theorem tf_34_0 : ztag 34 0 = 100 := rfl
theorem tf_34_1 : ztag 34 1 = 101 := rfl
theorem tf_34_2 : ztag 34 2 = 102 := rfl
theorem tf_34_3 : ztag 34 3 = 103 := rfl
theorem tf_113_0 : ztag 113 0 = 0 := rfl
theorem tf_113_1 : ztag 113 1 = 1 := rfl
theorem tf_113_2 : ztag 113 2 = 2 := rfl
theorem tf_113_3 : ztag 113 3 = 3 := rfl
theorem tf_113_4 : ztag 113 4 = 4 := rfl
theorem tf_129_0 : ztag 129 0 = 1100 := rfl
theorem tf_129_1 : ztag 129 1 = 1101 := rfl
theorem tf_129_2 : ztag 129 2 = 1102 := rfl
theorem tf_129_3 : ztag 129 3 = 1103 := rfl
theorem tf_129_4 : ztag 129 4 = 1104 := rfl
theorem tf_129_5 : ztag 129 5 = 1105 := rfl
theorem tf_129_6 : ztag 129 6 = 1106 := rfl
theorem tf_129_7 : ztag 129 7 = 1107 := rfl
theorem tf_129_8 : ztag 129 8 = 1108 := rfl
theorem tf_129_9 : ztag 129 9 = 1109 := rfl
theorem tf_129_10 : ztag 129 10 = 1110 := rfl
theorem tf_129_11 : ztag 129 11 = 1111 := rfl
theorem tf_129_12 : ztag 129 12 = 1112 := rfl
theorem tf_129_13 : ztag 129 13 = 1113 := rfl
theorem tf_129_14 : ztag 129 14 = 1114 := rfl
theorem tf_129_15 : ztag 129 15 = 1115 := rfl
theorem tf_129_16 : ztag 129 16 = 1116 := rfl
theorem tf_129_17 : ztag 129 17 = 1117 := rfl
theorem tf_129_18 : ztag 129 18 = 1118 := rfl
theorem tf_129_19 : ztag 129 19 = 1119 := rfl
theorem tf_129_20 : ztag 129 20 = 1120 := rfl
theorem tf_129_21 : ztag 129 21 = 1121 := rfl
theorem tf_129_22 : ztag 129 22 = 1122 := rfl
theorem tf_129_23 : ztag 129 23 = 1123 := rfl
theorem tf_129_24 : ztag 129 24 = 1124 := rfl
theorem tf_129_25 : ztag 129 25 = 1125 := rfl
theorem tf_129_26 : ztag 129 26 = 1126 := rfl
theorem tf_129_27 : ztag 129 27 = 1127 := rfl
theorem tf_129_28 : ztag 129 28 = 1128 := rfl
theorem tf_129_29 : ztag 129 29 = 1129 := rfl
theorem tf_129_30 : ztag 129 30 = 1130 := rfl
theorem tf_129_31 : ztag 129 31 = 1131 := rfl
theorem tf_129_32 : ztag 129 32 = 1132 := rfl
theorem tf_129_33 : ztag 129 33 = 1133 := rfl
theorem tf_129_34 : ztag 129 34 = 1134 := rfl
theorem tf_129_35 : ztag 129 35 = 1135 := rfl
theorem tf_129_36 : ztag 129 36 = 1136 := rfl
def zbP (p : Int) : Int := 53 + 6 * p
def zbL (i : Int) : Int := 26 + 2 * i
def zbF (d : Int) : Int := 117 + 2 * d
theorem znat10 {p : Int} (h0 : 0 ≤ p) (h : p < 10) : p = 0 ∨ p = 1 ∨ p = 2 ∨ p = 3 ∨ p = 4 ∨ p = 5 ∨ p = 6 ∨ p = 7 ∨ p = 8 ∨ p = 9 := by omega
theorem znat6 {p : Int} (h0 : 0 ≤ p) (h : p < 6) : p = 0 ∨ p = 1 ∨ p = 2 ∨ p = 3 ∨ p = 4 ∨ p = 5 := by omega
theorem znat4 {p : Int} (h0 : 0 ≤ p) (h : p < 4) : p = 0 ∨ p = 1 ∨ p = 2 ∨ p = 3 := by omega
theorem g_35 {μ : zMem} (h : zG0 μ) {p : Int} (h0 : 0 ≤ p) (h1 : p < 10) : μ 35 p = zbP p := by
  rcases znat10 h0 h1 with rfl | rfl | rfl | rfl | rfl | rfl | rfl | rfl | rfl | rfl <;> exact h.2.1 (35, _, _) (by decide +kernel)
theorem cP {p : Int} (h0 : 0 ≤ p) (h1 : p < 10) : zisC 6 (zbP p) = true := by
  rcases znat10 h0 h1 with rfl | rfl | rfl | rfl | rfl | rfl | rfl | rfl | rfl | rfl <;> rfl
theorem g_P0 {μ : zMem} (h : zG0 μ) {p : Int} (h0 : 0 ≤ p) (h1 : p < 10) : μ (zbP p) 0 = zbP p + 1 := by
  rcases znat10 h0 h1 with rfl | rfl | rfl | rfl | rfl | rfl | rfl | rfl | rfl | rfl <;> exact h.2.1 (_, 0, _) (by decide +kernel)
theorem g_Pe {μ : zMem} (h : zG0 μ) {p w : Int} (h0 : 0 ≤ p) (h1 : p < 10) (h2 : 0 ≤ w) (h3 : w < 4) : μ (zbP p + 1) w = zbP p + 2 + w := by
  rcases znat10 h0 h1 with rfl | rfl | rfl | rfl | rfl | rfl | rfl | rfl | rfl | rfl <;> rcases znat4 h2 h3 with rfl | rfl | rfl | rfl <;> exact h.2.1 (_, _, _) (by decide +kernel)
theorem shPe {p : Int} (h0 : 0 ≤ p) (h1 : p < 10) : zshp (zbP p + 1).toNat = (26, 4) := by
  rcases znat10 h0 h1 with rfl | rfl | rfl | rfl | rfl | rfl | rfl | rfl | rfl | rfl <;> rfl
theorem shPr {p w : Int} (h0 : 0 ≤ p) (h1 : p < 10) (h2 : 0 ≤ w) (h3 : w < 4) : zshp (zbP p + 2 + w).toNat = (20, 16) := by
  rcases znat10 h0 h1 with rfl | rfl | rfl | rfl | rfl | rfl | rfl | rfl | rfl | rfl <;> rcases znat4 h2 h3 with rfl | rfl | rfl | rfl <;> rfl
theorem g_22 {μ : zMem} (h : zG0 μ) {i : Int} (h0 : 0 ≤ i) (h1 : i < 4) : μ 22 i = zbL i := by
  rcases znat4 h0 h1 with rfl | rfl | rfl | rfl <;> exact h.2.1 (22, _, _) (by decide +kernel)
theorem cL {i : Int} (h0 : 0 ≤ i) (h1 : i < 4) : zisC 4 (zbL i) = true := by
  rcases znat4 h0 h1 with rfl | rfl | rfl | rfl <;> rfl
theorem g_L0 {μ : zMem} (h : zG0 μ) {i : Int} (h0 : 0 ≤ i) (h1 : i < 4) : μ (zbL i) 0 = zbL i + 1 := by
  rcases znat4 h0 h1 with rfl | rfl | rfl | rfl <;> exact h.2.1 (_, 0, _) (by decide +kernel)
theorem shL {i : Int} (h0 : 0 ≤ i) (h1 : i < 4) : zshp (zbL i + 1).toNat = (20, 121) := by
  rcases znat4 h0 h1 with rfl | rfl | rfl | rfl <;> rfl
theorem g_116 {μ : zMem} (h : zG0 μ) {i : Int} (h0 : 0 ≤ i) (h1 : i < 6) : μ 116 i = zbF i := by
  rcases znat6 h0 h1 with rfl | rfl | rfl | rfl | rfl | rfl <;> exact h.2.1 (116, _, _) (by decide +kernel)
theorem cF {i : Int} (h0 : 0 ≤ i) (h1 : i < 6) : zisC 8 (zbF i) = true := by
  rcases znat6 h0 h1 with rfl | rfl | rfl | rfl | rfl | rfl <;> rfl
theorem g_F0 {μ : zMem} (h : zG0 μ) {i : Int} (h0 : 0 ≤ i) (h1 : i < 6) : μ (zbF i) 0 = zbF i + 1 := by
  rcases znat6 h0 h1 with rfl | rfl | rfl | rfl | rfl | rfl <;> exact h.2.1 (_, 0, _) (by decide +kernel)
theorem shF {i : Int} (h0 : 0 ≤ i) (h1 : i < 6) : zshp (zbF i + 1).toNat = (21, 60) := by
  rcases znat6 h0 h1 with rfl | rfl | rfl | rfl | rfl | rfl <;> rfl
theorem sh8 {i : Int} (h0 : 0 ≤ i) (h1 : i < 4) : zshp (8 + i).toNat = (20, 16) := by
  rcases znat4 h0 h1 with rfl | rfl | rfl | rfl <;> rfl
theorem g_7 {μ : zMem} (h : zG0 μ) {i : Int} (h0 : 0 ≤ i) (h1 : i < 4) : μ 7 i = 8 + i := by
  rcases znat4 h0 h1 with rfl | rfl | rfl | rfl <;> exact h.2.1 (7, _, _) (by decide +kernel)
theorem g_36 {μ : zMem} (h : zG0 μ) {i : Int} (h0 : 0 ≤ i) (h1 : i < 16) : μ 36 i = 37 + i := by
  have : ∀ n : Nat, n < 16 → ((36 : Int), (n : Int), (37 : Int) + n) ∈ zrefs := by decide +kernel
  obtain ⟨n, rfl⟩ : ∃ n : Nat, i = n := ⟨i.toNat, by omega⟩
  exact h.2.1 _ (this n (by omega))
theorem sh37 {i : Int} (h0 : 0 ≤ i) (h1 : i < 16) : zshp (37 + i).toNat = (20, 16) := by
  have : ∀ n : Nat, n < 16 → zshp (37 + n) = (20, 16) := by decide +kernel
  obtain ⟨n, rfl⟩ : ∃ n : Nat, i = n := ⟨i.toNat, by omega⟩
  rw [show (37 + (n : Int)).toNat = 37 + n by omega]
  exact this n (by omega)
theorem gfP {p : Int} (h0 : 0 ≤ p) (h1 : p < 10) {j : Nat} {μ : zMem} {K : Int → zRs} : zgf 6 j (zbP p) μ K = K (μ (zbP p) j) := zgf_ok (cP h0 h1)
theorem pfP {p : Int} (h0 : 0 ≤ p) (h1 : p < 10) {j : Nat} {v : Int} {μ : zMem} {K : zMem → zRs} : zpf 6 j (zbP p) v μ K = K (zupd μ (zbP p) j v) := zpf_ok (cP h0 h1)
theorem vcP {p : Int} (h0 : 0 ≤ p) (h1 : p < 10) {r : Int} {μ : zMem} {K : Int → zMem → zRs} : zvc 6 (zbP p) (some (r, μ)) K = K r μ := zvc_ok (cP h0 h1)
theorem alPe {p w : Int} (h0 : 0 ≤ p) (h1 : p < 10) (h2 : 0 ≤ w) (h3 : w < 4) {μ : zMem} {K : Int → zRs} : zald 26 (zbP p + 1) w μ K = K (μ (zbP p + 1) w) := zald_ok (n := 4) (shPe h0 h1) (by unfold zbP; omega) h2 h3
theorem lnPe {p : Int} (h0 : 0 ≤ p) (h1 : p < 10) {K : Int → zRs} : zlen 26 (zbP p + 1) K = K 4 := zlen_ok (n := 4) (shPe h0 h1) (by unfold zbP; omega)
theorem alPr {p w j : Int} (h0 : 0 ≤ p) (h1 : p < 10) (h2 : 0 ≤ w) (h3 : w < 4) (h4 : 0 ≤ j) (h5 : j < 16) {μ : zMem} {K : Int → zRs} : zald 20 (zbP p + 2 + w) j μ K = K (μ (zbP p + 2 + w) j) := zald_ok (n := 16) (shPr h0 h1 h2 h3) (by unfold zbP; omega) h4 h5
theorem asPr {p w j v : Int} (h0 : 0 ≤ p) (h1 : p < 10) (h2 : 0 ≤ w) (h3 : w < 4) (h4 : 0 ≤ j) (h5 : j < 16) {μ : zMem} {K : zMem → zRs} : zast 20 (zbP p + 2 + w) j v μ K = K (zupd μ (zbP p + 2 + w) j v) := zast_ok (n := 16) (shPr h0 h1 h2 h3) (by unfold zbP; omega) h4 h5
theorem gfL {p : Int} (h0 : 0 ≤ p) (h1 : p < 4) {j : Nat} {μ : zMem} {K : Int → zRs} : zgf 4 j (zbL p) μ K = K (μ (zbL p) j) := zgf_ok (cL h0 h1)
theorem pfL {p : Int} (h0 : 0 ≤ p) (h1 : p < 4) {j : Nat} {v : Int} {μ : zMem} {K : zMem → zRs} : zpf 4 j (zbL p) v μ K = K (zupd μ (zbL p) j v) := zpf_ok (cL h0 h1)
theorem vcL {p : Int} (h0 : 0 ≤ p) (h1 : p < 4) {r : Int} {μ : zMem} {K : Int → zMem → zRs} : zvc 4 (zbL p) (some (r, μ)) K = K r μ := zvc_ok (cL h0 h1)
theorem alL {p j : Int} (h0 : 0 ≤ p) (h1 : p < 4) (h4 : 0 ≤ j) (h5 : j < 121) {μ : zMem} {K : Int → zRs} : zald 20 (zbL p + 1) j μ K = K (μ (zbL p + 1) j) := zald_ok (n := 121) (shL h0 h1) (by unfold zbL; omega) h4 h5
theorem gfF {p : Int} (h0 : 0 ≤ p) (h1 : p < 6) {j : Nat} {μ : zMem} {K : Int → zRs} : zgf 8 j (zbF p) μ K = K (μ (zbF p) j) := zgf_ok (cF h0 h1)
theorem pfF {p : Int} (h0 : 0 ≤ p) (h1 : p < 6) {j : Nat} {v : Int} {μ : zMem} {K : zMem → zRs} : zpf 8 j (zbF p) v μ K = K (zupd μ (zbF p) j v) := zpf_ok (cF h0 h1)
theorem vcF {p : Int} (h0 : 0 ≤ p) (h1 : p < 6) {r : Int} {μ : zMem} {K : Int → zMem → zRs} : zvc 8 (zbF p) (some (r, μ)) K = K r μ := zvc_ok (cF h0 h1)
theorem alF {p j : Int} (h0 : 0 ≤ p) (h1 : p < 6) (h4 : 0 ≤ j) (h5 : j < 60) {μ : zMem} {K : Int → zRs} : zald 21 (zbF p + 1) j μ K = K (μ (zbF p + 1) j) := zald_ok (n := 60) (shF h0 h1) (by unfold zbF; omega) h4 h5
theorem asF {p j v : Int} (h0 : 0 ≤ p) (h1 : p < 6) (h4 : 0 ≤ j) (h5 : j < 60) {μ : zMem} {K : zMem → zRs} : zast 21 (zbF p + 1) j v μ K = K (zupd μ (zbF p + 1) j v) := zast_ok (n := 60) (shF h0 h1) (by unfold zbF; omega) h4 h5
theorem tgP {p : Int} (h0 : 0 ≤ p) (h1 : p < 10) (j : Int) : ztag (zbP p) j = 600 + j.toNat := by
  rcases znat10 h0 h1 with rfl | rfl | rfl | rfl | rfl | rfl | rfl | rfl | rfl | rfl <;> rfl
theorem tgPe {p : Int} (h0 : 0 ≤ p) (h1 : p < 10) (j : Int) : ztag (zbP p + 1) j = 600 := by
  rcases znat10 h0 h1 with rfl | rfl | rfl | rfl | rfl | rfl | rfl | rfl | rfl | rfl <;> rfl
theorem tgPr {p w : Int} (h0 : 0 ≤ p) (h1 : p < 10) (h2 : 0 ≤ w) (h3 : w < 4) (j : Int) : ztag (zbP p + 2 + w) j = 600 := by
  rcases znat10 h0 h1 with rfl | rfl | rfl | rfl | rfl | rfl | rfl | rfl | rfl | rfl <;> rcases znat4 h2 h3 with rfl | rfl | rfl | rfl <;> rfl
theorem tgL {p : Int} (h0 : 0 ≤ p) (h1 : p < 4) (j : Int) : ztag (zbL p) j = 400 + j.toNat := by
  rcases znat4 h0 h1 with rfl | rfl | rfl | rfl <;> rfl
theorem tgLr {p : Int} (h0 : 0 ≤ p) (h1 : p < 4) (j : Int) : ztag (zbL p + 1) j = 400 := by
  rcases znat4 h0 h1 with rfl | rfl | rfl | rfl <;> rfl
theorem tgF {p : Int} (h0 : 0 ≤ p) (h1 : p < 6) (j : Int) : ztag (zbF p) j = 800 + j.toNat := by
  rcases znat6 h0 h1 with rfl | rfl | rfl | rfl | rfl | rfl <;> rfl
theorem tgFr {p : Int} (h0 : 0 ≤ p) (h1 : p < 6) (j : Int) : ztag (zbF p + 1) j = 800 := by
  rcases znat6 h0 h1 with rfl | rfl | rfl | rfl | rfl | rfl <;> rfl
theorem tg8 {w : Int} (h0 : 0 ≤ w) (h1 : w < 4) (j : Int) : ztag (8 + w) j = 500 := by
  rcases znat4 h0 h1 with rfl | rfl | rfl | rfl <;> rfl
theorem zag {T : List Nat} {μ μ' : zMem} {a j : Int} {t : Nat} (h : zagr T μ μ') (e : ztag a j = t) (ht : t ∉ T := by decide) : μ' a j = μ a j := h a j (by rw [e]; exact ht)
theorem zK1 {T t : List Nat} {μ μ' : zMem} (h1 : zagr T μ μ') (hd : ∀ x ∈ t, x ∉ T := by decide) : ∀ a j : Int, ztag a j ∈ t → μ' a j = μ a j := fun a j hj => h1 a j (hd _ hj)
theorem zK2 {T1 T2 t : List Nat} {μ μ1 μ2 : zMem} (h1 : zagr T1 μ μ1) (h2 : zagr T2 μ1 μ2) (hd : ∀ x ∈ t, x ∉ T1 ∧ x ∉ T2 := by decide) : ∀ a j : Int, ztag a j ∈ t → μ2 a j = μ a j := fun a j hj => (h2 a j (hd _ hj).2).trans (h1 a j (hd _ hj).1)
theorem al8 {p j : Int} (h0 : 0 ≤ p) (h1 : p < 4) (h4 : 0 ≤ j) (h5 : j < 16) {μ : zMem} {K : Int → zRs} : zald 20 (8 + p) j μ K = K (μ (8 + p) j) := zald_ok (n := 16) (sh8 h0 h1) (by omega) h4 h5
theorem as8 {p j v : Int} (h0 : 0 ≤ p) (h1 : p < 4) (h4 : 0 ≤ j) (h5 : j < 16) {μ : zMem} {K : zMem → zRs} : zast 20 (8 + p) j v μ K = K (zupd μ (8 + p) j v) := zast_ok (n := 16) (sh8 h0 h1) (by omega) h4 h5
theorem al37 {p j : Int} (h0 : 0 ≤ p) (h1 : p < 16) (h4 : 0 ≤ j) (h5 : j < 16) {μ : zMem} {K : Int → zRs} : zald 20 (37 + p) j μ K = K (μ (37 + p) j) := zald_ok (n := 16) (sh37 h0 h1) (by omega) h4 h5
theorem as37 {p j v : Int} (h0 : 0 ≤ p) (h1 : p < 16) (h4 : 0 ≤ j) (h5 : j < 16) {μ : zMem} {K : zMem → zRs} : zast 20 (37 + p) j v μ K = K (zupd μ (37 + p) j v) := zast_ok (n := 16) (sh37 h0 h1) (by omega) h4 h5
