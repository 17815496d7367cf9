/-! ===== places that hold cells; who owns a row; what a method may change ===== -/
def zrefs : List (Int × Int × Int) := [(5, 0, 6), (5, 1, 12), (5, 2, 18), (5, 3, 21), (5, 4, 34), (5, 5, 113), (5, 6, 116), (6, 0, 7), (7, 0, 8), (7, 1, 9), (7, 2, 10), (7, 3, 11), (12, 0, 13), (13, 0, 14), (13, 1, 15), (13, 2, 16), (13, 3, 17), (18, 0, 19), (18, 1, 20), (21, 0, 6), (21, 1, 23), (21, 2, 22), (23, 0, 6), (23, 1, 24), (23, 2, 25), (22, 0, 26), (26, 0, 27), (22, 1, 28), (28, 0, 29), (22, 2, 30), (30, 0, 31), (22, 3, 32), (32, 0, 33), (34, 0, 6), (34, 1, 35), (34, 2, 36), (36, 0, 37), (36, 1, 38), (36, 2, 39), (36, 3, 40), (36, 4, 41), (36, 5, 42), (36, 6, 43), (36, 7, 44), (36, 8, 45), (36, 9, 46), (36, 10, 47), (36, 11, 48), (36, 12, 49), (36, 13, 50), (36, 14, 51), (36, 15, 52), (35, 0, 53), (53, 0, 54), (54, 0, 55), (54, 1, 56), (54, 2, 57), (54, 3, 58), (35, 1, 59), (59, 0, 60), (60, 0, 61), (60, 1, 62), (60, 2, 63), (60, 3, 64), (35, 2, 65), (65, 0, 66), (66, 0, 67), (66, 1, 68), (66, 2, 69), (66, 3, 70), (35, 3, 71), (71, 0, 72), (72, 0, 73), (72, 1, 74), (72, 2, 75), (72, 3, 76), (35, 4, 77), (77, 0, 78), (78, 0, 79), (78, 1, 80), (78, 2, 81), (78, 3, 82), (35, 5, 83), (83, 0, 84), (84, 0, 85), (84, 1, 86), (84, 2, 87), (84, 3, 88), (35, 6, 89), (89, 0, 90), (90, 0, 91), (90, 1, 92), (90, 2, 93), (90, 3, 94), (35, 7, 95), (95, 0, 96), (96, 0, 97), (96, 1, 98), (96, 2, 99), (96, 3, 100), (35, 8, 101), (101, 0, 102), (102, 0, 103), (102, 1, 104), (102, 2, 105), (102, 3, 106), (35, 9, 107), (107, 0, 108), (108, 0, 109), (108, 1, 110), (108, 2, 111), (108, 3, 112), (113, 0, 114), (113, 1, 115), (116, 0, 117), (117, 0, 118), (116, 1, 119), (119, 0, 120), (116, 2, 121), (121, 0, 122), (116, 3, 123), (123, 0, 124), (116, 4, 125), (125, 0, 126), (116, 5, 127), (127, 0, 128), (129, 0, 130), (129, 1, 131), (129, 2, 132), (129, 3, 133), (129, 7, 134), (129, 10, 135), (129, 11, 136), (129, 12, 137), (129, 13, 138), (129, 19, 139), (129, 21, 140), (129, 22, 141), (129, 23, 142), (129, 24, 143), (129, 25, 144), (129, 26, 145), (129, 28, 146), (129, 29, 147), (129, 33, 148), (129, 34, 149), (129, 35, 150), (129, 36, 151)]
def zOWL : List Nat := [9999, 9999, 9999, 9999, 9999, 9999, 9999, 500, 500, 500, 500, 500, 9999, 200, 200, 200, 200, 200, 9999, 900, 901, 9999, 302, 9999, 701, 702, 9999, 400, 9999, 400, 9999, 400, 9999, 400, 9999, 101, 102, 102, 102, 102, 102, 102, 102, 102, 102, 102, 102, 102, 102, 102, 102, 102, 102, 9999, 600, 600, 600, 600, 600, 9999, 600, 600, 600, 600, 600, 9999, 600, 600, 600, 600, 600, 9999, 600, 600, 600, 600, 600, 9999, 600, 600, 600, 600, 600, 9999, 600, 600, 600, 600, 600, 9999, 600, 600, 600, 600, 600, 9999, 600, 600, 600, 600, 600, 9999, 600, 600, 600, 600, 600, 9999, 600, 600, 600, 600, 600, 9999, 0, 1, 1006, 9999, 800, 9999, 800, 9999, 800, 9999, 800, 9999, 800, 9999, 800, 9999, 1100, 1101, 1102, 1103, 1107, 1110, 1111, 1112, 1113, 1119, 1121, 1122, 1123, 1124, 1125, 1126, 1128, 1129, 1133, 1134, 1135, 1136]
def zown (a : Int) : Nat := zOWL.getD a.toNat 9999
def ztag (a j : Int) : Nat := if (zshp a.toNat).1 < 12 then 100 * (zshp a.toNat).1 + j.toNat else zown a
/-- a place that holds a cell, or is fixed -/
def zrfs (a j : Int) : Bool := decide (a < 5) || (decide ((zshp a.toNat).1 < 12) && (ztg (zty (zshp a.toNat).1 j.toNat) == 2)) || (decide (23 ≤ (zshp a.toNat).1) && decide ((zshp a.toNat).1 ≤ 26))
def zG0 (μ : zMem) : Prop := μ (-1) 0 = 147 ∧ (∀ q ∈ zrefs, μ q.1 q.2.1 = q.2.2) ∧ ∀ k j : Nat, 1 ≤ k → k ≤ 4 → j < (zshp k).2 → μ (k : Int) (j : Int) = zSV k j
def zagr (T : List Nat) (μ μ' : zMem) : Prop := ∀ a j : Int, ztag a j ∉ T → μ' a j = μ a j
def zMd (T : List Nat) (μ0 μ : zMem) (t : zRs) : Prop := zG0 μ → zagr T μ0 μ → ∀ (r : Int) (μ' : zMem), t = some (r, μ') → zG0 μ' ∧ zagr T μ0 μ'
theorem zagr_refl {T : List Nat} {μ : zMem} : zagr T μ μ := fun _ _ _ => rfl
theorem zagr_trans {T T' : List Nat} {μ0 μ μ' : zMem} (h : zagr T μ0 μ) (h2 : zagr T' μ μ') (hs : ∀ x ∈ T', x ∈ T) : zagr T μ0 μ' := fun a j hq => (h2 a j (fun z => hq (hs _ z))).trans (h a j hq)
theorem zrefs_rfs : ∀ q ∈ zrefs, zrfs q.1 q.2.1 = true := by decide +kernel
theorem zG0_keep {μ μ' : zMem} (h : zG0 μ) (hk : ∀ a j : Int, zrfs a j = true → μ' a j = μ a j) : zG0 μ' := by
  refine ⟨by rw [hk (-1) 0 rfl]; exact h.1, fun q hq => by rw [hk _ _ (zrefs_rfs q hq)]; exact h.2.1 q hq, fun k j h1 h4 hj => ?_⟩
  rw [hk]
  · exact h.2.2 k j h1 h4 hj
  · simp [zrfs]; omega
theorem md_none {T : List Nat} {μ0 μ : zMem} : zMd T μ0 μ none := fun _ _ _ _ h => by cases h
theorem md_ret {T : List Nat} {μ0 μ : zMem} {x : Int} : zMd T μ0 μ (some (x, μ)) := fun h1 h2 r μ' h => by cases h; exact ⟨h1, h2⟩
theorem md_bl {T : List Nat} {μ0 μ : zMem} {x : Int} {t : zRs} (K : zMd T μ0 μ t) : zMd T μ0 μ (zbl x t) := by
  unfold zbl
  split
  · exact K
  · exact md_none
theorem md_nz {T : List Nat} {μ0 μ : zMem} {x : Int} {t : zRs} (K : zMd T μ0 μ t) : zMd T μ0 μ (znz x t) := by
  unfold znz
  split
  · exact md_none
  · exact K
theorem md_if {T : List Nat} {μ0 μ : zMem} {c : Prop} [Decidable c] {a b : zRs} (K1 : zMd T μ0 μ a) (K2 : zMd T μ0 μ b) : zMd T μ0 μ (if c then a else b) := by
  split
  · exact K1
  · exact K2
theorem md_jn {T : List Nat} {μ0 μ : zMem} {α : Type} {P : α → Prop} {J : α} {body : α → zRs} (hJ : P J) (hb : ∀ k, P k → zMd T μ0 μ (body k)) : zMd T μ0 μ (zjn J body) := hb J hJ
theorem md_gf {T : List Nat} {μ0 μ : zMem} {ci j : Nat} {a : Int} {k : Int → zRs} (K : ∀ x, zMd T μ0 μ (k x)) : zMd T μ0 μ (zgf ci j a μ k) := by
  unfold zgf
  split
  · exact K _
  · exact md_none
/-- a field that holds a row -/
def zrowf (ci j : Nat) : Bool := zrefs.all (fun q => !((zshp q.1.toNat).1 == ci && q.2.1 == (j : Int)) || (zown q.2.2 == 100 * ci + j)) && (List.range 152).all (fun a => !(decide (5 ≤ a) && (zshp a).1 == ci) || zrefs.any (fun q => q.1 == (a : Int) && q.2.1 == (j : Int)))
theorem zrowf_own {μ : zMem} (h : zG0 μ) {ci j : Nat} {a : Int} (hf : zrowf ci j = true) (hc : zisC ci a = true) (hci : ci < 12) : zown (μ a (j : Int)) = 100 * ci + j := by
  simp only [zrowf, Bool.and_eq_true] at hf
  obtain ⟨k, rfl, hk⟩ := zisC_spec hc
  have hlt : 5 + k < 152 := by
    rcases Nat.lt_or_ge (5 + k) 152 with h1 | h1
    · exact h1
    · have : zshp (5 + k) = (99, 0) := by
        unfold zshp
        rw [List.getD_eq_getElem?_getD, List.getElem?_eq_none (by show zSHL.length ≤ _; exact Nat.le_trans (by decide +kernel) h1)]
        rfl
      rw [this] at hk
      have hk' : 99 = ci := hk
      omega
  have h2 := List.all_eq_true.mp hf.2 (5 + k) (List.mem_range.mpr hlt)
  rw [hk] at h2
  have h3 : zrefs.any (fun q => q.1 == ((5 + k : Nat) : Int) && q.2.1 == (j : Int)) = true := by simpa using h2
  obtain ⟨q, hq, hq2⟩ := List.any_eq_true.mp h3
  simp only [Bool.and_eq_true, beq_iff_eq] at hq2
  have h4 := List.all_eq_true.mp hf.1 q hq
  have h5 := h.2.1 q hq
  rw [hq2.1, hq2.2] at h5
  rw [h5]
  have h6 : (zshp q.1.toNat).1 = ci := by rw [hq2.1]; exact hk
  simpa [h6, hq2.2] using h4
theorem md_gfA {T : List Nat} {μ0 μ : zMem} {ci j : Nat} {a : Int} {k : Int → zRs} (hf : zrowf ci j = true) (hci : ci < 12) (K : ∀ x, zown x = 100 * ci + j → zMd T μ0 μ (k x)) : zMd T μ0 μ (zgf ci j a μ k) := by
  unfold zgf
  split
  · rename_i hc
    exact fun h1 h2 => K _ (zrowf_own h1 hf hc hci) h1 h2
  · exact md_none
theorem md_ald {T : List Nat} {μ0 μ : zMem} {kd : Nat} {a j : Int} {k : Int → zRs} (K : ∀ x, zMd T μ0 μ (k x)) : zMd T μ0 μ (zald kd a j μ k) := by
  unfold zald
  split
  · exact K _
  · exact md_none
theorem zrow26 : (List.range 152).all (fun a => !((zshp a).1 == 26) || (List.range (zshp a).2).all (fun j => zrefs.any (fun q => q.1 == (a : Int) && q.2.1 == (j : Int) && (zown q.2.2 == zown a)))) = true := by decide +kernel
theorem zrow26_own {μ : zMem} (h : zG0 μ) {a j : Int} (hc : zisA 26 a j = true) : zown (μ a j) = zown a := by
  obtain ⟨h1, h2, h3, h4⟩ := zisA_spec hc
  obtain ⟨n, rfl⟩ : ∃ n : Nat, a = n := ⟨a.toNat, by omega⟩
  obtain ⟨i, rfl⟩ : ∃ i : Nat, j = i := ⟨j.toNat, by omega⟩
  have hnn : ((n : Int)).toNat = n := by omega
  rw [hnn] at h2 h4
  have hlt : n < 152 := by
    rcases Nat.lt_or_ge n 152 with h1 | h1
    · exact h1
    · have : zshp n = (99, 0) := by
        unfold zshp
        rw [List.getD_eq_getElem?_getD, List.getElem?_eq_none (by show zSHL.length ≤ _; exact Nat.le_trans (by decide +kernel) h1)]
        rfl
      rw [this] at h2
      cases h2
  have g1 := List.all_eq_true.mp zrow26 n (List.mem_range.mpr hlt)
  rw [h2] at g1
  have g2 : (List.range (zshp n).2).all (fun j => zrefs.any (fun q => q.1 == (n : Int) && q.2.1 == (j : Int) && (zown q.2.2 == zown n))) = true := by simpa using g1
  have g3 := List.all_eq_true.mp g2 i (List.mem_range.mpr (by omega))
  obtain ⟨q, hq, hq2⟩ := List.any_eq_true.mp g3
  simp only [Bool.and_eq_true, beq_iff_eq] at hq2
  have h5 := h.2.1 q hq
  rw [hq2.1.1, hq2.1.2] at h5
  rw [h5]
  exact hq2.2
theorem md_aldR {T : List Nat} {μ0 μ : zMem} {a j : Int} {k : Int → zRs} {g : Nat} (ho : zown a = g) (K : ∀ x, zown x = g → zMd T μ0 μ (k x)) : zMd T μ0 μ (zald 26 a j μ k) := by
  unfold zald
  split
  · rename_i hc
    exact fun h1 h2 => K _ ((zrow26_own h1 hc).trans ho) h1 h2
  · exact md_none
theorem md_len {T : List Nat} {μ0 μ : zMem} {kd : Nat} {a : Int} {k : Int → zRs} (K : ∀ x, zMd T μ0 μ (k x)) : zMd T μ0 μ (zlen kd a k) := by
  unfold zlen
  split
  · exact K _
  · exact md_none
theorem md_ast {T : List Nat} {μ0 μ : zMem} {kd : Nat} {a j v : Int} {k : zMem → zRs} {g : Nat} (ho : zown a = g) (hT : g ∈ T) (hk : 20 ≤ kd ∧ kd ≤ 22) (K : ∀ μ', zMd T μ0 μ' (k μ')) : zMd T μ0 μ (zast kd a j v μ k) := by
  unfold zast
  split
  rotate_left
  · exact md_none
  rename_i hc
  simp only [zisW, Bool.and_eq_true, decide_eq_true_eq] at hc
  obtain ⟨c5, hc⟩ := hc
  obtain ⟨c1, c2, -, -⟩ := zisA_spec hc
  intro h1 h2
  refine K _ (zG0_keep h1 (fun a' j' hr => ?_)) (fun a' j' hq => ?_)
  · unfold zupd
    rw [if_neg]
    rintro ⟨rfl, -⟩
    simp only [zrfs, c2] at hr
    have e1 : ¬ a' < 5 := by omega
    have e2 : ¬ kd < 12 := by omega
    have e3 : ¬ 23 ≤ kd := by omega
    simp [e1, e2, e3] at hr
  · unfold zupd
    rw [if_neg]
    · exact h2 a' j' hq
    · rintro ⟨rfl, -⟩
      apply hq
      unfold ztag
      rw [c2, if_neg (by omega), ho]
      exact hT
theorem md_pf {T : List Nat} {μ0 μ : zMem} {ci j : Nat} {a v : Int} {k : zMem → zRs} (hT : 100 * ci + j ∈ T) (hn : ztg (zty ci j) ≠ 2) (hci : ci < 12) (K : ∀ μ', zMd T μ0 μ' (k μ')) : zMd T μ0 μ (zpf ci j a v μ k) := by
  unfold zpf
  split
  rotate_left
  · exact md_none
  rename_i hc
  obtain ⟨q, rfl, hk⟩ := zisC_spec hc
  intro h1 h2
  refine K _ (zG0_keep h1 (fun a' j' hr => ?_)) (fun a' j' hq => ?_)
  · unfold zupd
    rw [if_neg]
    rintro ⟨rfl, rfl⟩
    have e0 : (((5 + q : Nat) : Int)).toNat = 5 + q := by omega
    have e4 : (((j : Nat) : Int)).toNat = j := by omega
    simp only [zrfs, e0, hk, e4] at hr
    have e1 : ¬ ((5 + q : Nat) : Int) < 5 := by omega
    have e3 : ¬ 23 ≤ ci := by omega
    simp [e3, hn] at hr
    omega
  · unfold zupd
    rw [if_neg]
    · exact h2 a' j' hq
    · rintro ⟨rfl, rfl⟩
      apply hq
      have e0 : (((5 + q : Nat) : Int)).toNat = 5 + q := by omega
      have e4 : (((j : Nat) : Int)).toNat = j := by omega
      unfold ztag
      rw [e0, hk, if_pos hci, e4]
      exact hT
theorem md_copy {T : List Nat} {μ0 μ : zMem} {kd : Nat} {a i b j n : Int} {k : zMem → zRs} {g : Nat} (ho : zown b = g) (hT : g ∈ T) (hk : 20 ≤ kd ∧ kd ≤ 22) (K : ∀ μ', zMd T μ0 μ' (k μ')) : zMd T μ0 μ (zcopy kd a i b j n μ k) := by
  unfold zcopy
  split
  rotate_left
  · exact md_none
  rename_i hc
  obtain ⟨-, c5, -, c2, -⟩ := hc
  intro h1 h2
  refine K _ (zG0_keep h1 (fun a' j' hr => ?_)) (fun a' j' hq => ?_)
  · unfold zcpm
    rw [if_neg]
    rintro ⟨rfl, -⟩
    simp only [zrfs, c2] at hr
    have e1 : ¬ a' < 5 := by omega
    have e2 : ¬ kd < 12 := by omega
    have e3 : ¬ 23 ≤ kd := by omega
    simp [e1, e2, e3] at hr
  · unfold zcpm
    rw [if_neg]
    · exact h2 a' j' hq
    · rintro ⟨rfl, -⟩
      apply hq
      unfold ztag
      rw [c2, if_neg (by omega), ho]
      exact hT
theorem md_call {T T' : List Nat} {μ0 μ : zMem} {o : zRs} {k : Int → zMem → zRs} (hm : zMd T' μ μ o) (hs : ∀ x ∈ T', x ∈ T) (K : ∀ r μ', zMd T μ0 μ' (k r μ')) : zMd T μ0 μ (zcall o k) := by
  intro h1 h2 r μ' ht
  obtain ⟨r1, μ1, ho, hk⟩ := zcall_some ht
  obtain ⟨g1, g2⟩ := hm h1 zagr_refl r1 μ1 ho
  exact K r1 μ1 g1 (zagr_trans h2 g2 hs) r μ' hk
theorem md_vc {T T' : List Nat} {μ0 μ : zMem} {ci : Nat} {a : Int} {o : zRs} {k : Int → zMem → zRs} (hm : zMd T' μ μ o) (hs : ∀ x ∈ T', x ∈ T) (K : ∀ r μ', zMd T μ0 μ' (k r μ')) : zMd T μ0 μ (zvc ci a o k) := by
  unfold zvc
  split
  · exact md_call hm hs K
  · exact md_none
theorem md_mono {T T' : List Nat} {μ : zMem} {o : zRs} (hm : zMd T' μ μ o) (hs : ∀ x ∈ T', x ∈ T) : zMd T μ μ o := fun h1 _ r μ' ht => ⟨(hm h1 zagr_refl r μ' ht).1, zagr_trans zagr_refl (hm h1 zagr_refl r μ' ht).2 hs⟩
