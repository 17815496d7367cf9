/-! ===== order: the class's counts ===== -/
/-- the memory with these counts -/
def zlm (μ : zMem) (g : Int → Int → Int) : zMem := fun a j => if 37 ≤ a ∧ a < 53 ∧ 0 ≤ j ∧ j < 16 then g (a - 37) j else μ a j
set_option maxHeartbeats 400000 in
theorem zlm_o {μ : zMem} {g : Int → Int → Int} {a j : Int} (h : ¬ (37 ≤ a ∧ a < 53)) : zlm μ g a j = μ a j := by
  unfold zlm
  rw [if_neg (fun q => h ⟨q.1, q.2.1⟩)]
set_option maxHeartbeats 400000 in
theorem zlm_i {μ : zMem} {g : Int → Int → Int} {a j : Int} (h0 : 0 ≤ a) (h1 : a < 16) (h2 : 0 ≤ j) (h3 : j < 16) : zlm μ g (37 + a) j = g a j := by
  unfold zlm
  rw [if_pos (by omega), show 37 + a - 37 = a by omega]
set_option maxHeartbeats 400000 in
theorem zlm_u {μ : zMem} {g : Int → Int → Int} {a j v : Int} (h0 : 0 ≤ a) (h1 : a < 16) (h2 : 0 ≤ j) (h3 : j < 16) : zupd (zlm μ g) (37 + a) j v = zlm μ (fun x y => if x = a ∧ y = j then v else g x y) := by
  funext a' j'
  unfold zupd zlm
  by_cases h : a' = 37 + a ∧ j' = j
  · rw [if_pos h, if_pos (by omega)]
    show v = if a' - 37 = a ∧ j' = j then v else g (a' - 37) j'
    rw [if_pos (by omega)]
  · rw [if_neg h]
    by_cases h2 : 37 ≤ a' ∧ a' < 53 ∧ 0 ≤ j' ∧ j' < 16
    · rw [if_pos h2, if_pos h2]
      show g (a' - 37) j' = if a' - 37 = a ∧ j' = j then v else g (a' - 37) j'
      rw [if_neg (by omega)]
    · rw [if_neg h2, if_neg h2]
set_option maxHeartbeats 400000 in
theorem zlm_congr {μ : zMem} {g g' : Int → Int → Int} (h : ∀ a j : Int, 0 ≤ a → a < 16 → 0 ≤ j → j < 16 → g a j = g' a j) : zlm μ g = zlm μ g' := by
  funext a' j'
  unfold zlm
  by_cases h2 : 37 ≤ a' ∧ a' < 53 ∧ 0 ≤ j' ∧ j' < 16
  · rw [if_pos h2, if_pos h2]
    exact h _ _ (by omega) (by omega) (by omega) (by omega)
  · rw [if_neg h2, if_neg h2]
set_option maxHeartbeats 400000 in
theorem zlm_self {μ : zMem} : zlm μ (fun x y => μ (37 + x) y) = μ := by
  funext a' j'
  unfold zlm
  by_cases h2 : 37 ≤ a' ∧ a' < 53 ∧ 0 ≤ j' ∧ j' < 16
  · rw [if_pos h2]
    show μ (37 + (a' - 37)) j' = μ a' j'
    rw [show 37 + (a' - 37) = a' by omega]
  · rw [if_neg h2]
set_option maxHeartbeats 400000 in
theorem zrf37 {a j : Int} (h0 : 37 ≤ a) (h1 : a < 53) : zrfs a j = false := by
  obtain ⟨n, hn⟩ : ∃ n : Int, a = 37 + n := ⟨a - 37, by omega⟩
  have e := sh37 (i := n) (by omega) (by omega)
  rw [← hn] at e
  unfold zrfs
  rw [e]
  have : ¬ a < 5 := by omega
  simp [this]
set_option maxHeartbeats 400000 in
theorem zlm_G0 {μ : zMem} {g : Int → Int → Int} (hG : zG0 μ) : zG0 (zlm μ g) := zG0_keep hG (fun a j hr => zlm_o (fun q => by rw [zrf37 q.1 q.2] at hr; cases hr))
set_option maxHeartbeats 400000 in
theorem s_cl1 {μ : zMem} {g : Int → Int → Int} {k : Int → zMem → zRs} {r : Int} (h0 : 0 ≤ r) (h1 : r < 16) : lX1_countLeads_1 r (37 + r) k 0 (zlm μ g) = k (zw32 (r + 1)) (zlm μ (fun x y => if x = r then 0 else g x y)) := by
  have hl : ∀ K : Int → zRs, zlen 20 (37 + r) K = K 16 := fun K => zlen_ok (n := 16) (sh37 h0 h1) (by omega)
  unfold lX1_countLeads_1
  refine zle1 (fun n => (n : Int)) (fun n => zlm μ (fun x y => if x = r ∧ y < n then 0 else g x y)) rfl ?_ 16 (by omega) (fun k2 n hn => ?_) (fun k2 => ?_)
  · exact zlm_congr (fun a j a0 a1 j0 j1 => if_neg (by omega))
  · have hup := zupn (n := n) (by omega)
    have e : (fun x y : Int => if x = r ∧ y = (n : Int) then (0 : Int) else if x = r ∧ y < (n : Int) then 0 else g x y) = fun x y => if x = r ∧ y < ((n + 1 : Nat) : Int) then 0 else g x y := by
      funext x y
      by_cases c1 : x = r ∧ y = (n : Int)
      · rw [if_pos c1, if_pos (by omega)]
      · rw [if_neg c1]
        by_cases c2 : x = r ∧ y < (n : Int)
        · rw [if_pos c2, if_pos (by omega)]
        · rw [if_neg c2, if_neg (by omega)]
    simp (disch := omega) only [↓hl, hl, as37, zlm_u, zupn, e, ↓zcall_ok, zcall_ok, ↓zjn_ok, zjn_ok, ↓zbl_0, zbl_0, ↓zbl_1, zbl_1, ↓if_pos, if_pos, ↓if_neg, if_neg, ↓zb_ite, zb_ite, ↓zb_itn, zb_itn, ↓gf_6, gf_6, ↓pf_6, pf_6, ↓vc_6, vc_6, if_true, if_false, not_true_eq_false, not_false_eq_true, zu_eq, zu_a, zu_j, ge_iff_le, gt_iff_lt, ne_eq, Int.cast_ofNat_Int, Int.add_zero, Int.zero_add, Int.reduceAdd, Int.reduceSub, Int.reduceMul, Int.reduceNeg]
  · have e : zlm μ (fun x y => if x = r ∧ y < ((16 : Nat) : Int) then 0 else g x y) = zlm μ (fun x y => if x = r then 0 else g x y) := zlm_congr (fun a j a0 a1 j0 j1 => by
      by_cases c : a = r
      · rw [if_pos (by omega), if_pos c]
      · rw [if_neg (by omega), if_neg c])
    rw [e]
    simp (disch := omega) only [↓hl, hl, ↓zcall_ok, zcall_ok, ↓zjn_ok, zjn_ok, ↓zbl_0, zbl_0, ↓zbl_1, zbl_1, ↓if_pos, if_pos, ↓if_neg, if_neg, ↓zb_ite, zb_ite, ↓zb_itn, zb_itn, ↓gf_6, gf_6, ↓pf_6, pf_6, ↓vc_6, vc_6, if_true, if_false, not_true_eq_false, not_false_eq_true, zu_eq, zu_a, zu_j, ge_iff_le, gt_iff_lt, ne_eq, Int.cast_ofNat_Int, Int.add_zero, Int.zero_add, Int.reduceAdd, Int.reduceSub, Int.reduceMul, Int.reduceNeg]
def zsg (u v : Int) : Int := if 0 ≤ u ∧ u < v then 1 else if 0 ≤ v ∧ v < u then -1 else 0
def zdg (A B u v : Int) : Int := if 0 ≤ u ∧ u < v ∧ (u < A ∨ (u = A ∧ v < B)) then 1 else if 0 ≤ v ∧ v < u ∧ (v < A ∨ (v = A ∧ u < B)) then -1 else 0
set_option maxHeartbeats 400000 in
theorem zdg_0 {u v : Int} : zdg 0 1 u v = 0 := by
  unfold zdg
  rw [if_neg (by omega), if_neg (by omega)]
set_option maxHeartbeats 400000 in
theorem zdg_e {s u v : Int} (hu : u < s) (hv : v < s) : zdg s (s + 1) u v = zsg u v := by
  unfold zdg zsg
  by_cases c1 : 0 ≤ u ∧ u < v
  · rw [if_pos c1, if_pos (by omega)]
  · rw [if_neg c1, if_neg (by omega)]
    by_cases c2 : 0 ≤ v ∧ v < u
    · rw [if_pos c2, if_pos (by omega)]
    · rw [if_neg c2, if_neg (by omega)]
set_option maxHeartbeats 400000 in
theorem zdg_n {s A u v : Int} (hu : u < s) (hv : v < s) : zdg A s u v = zdg (A + 1) (A + 1 + 1) u v := by
  unfold zdg
  by_cases c1 : 0 ≤ u ∧ u < v ∧ (u < A ∨ (u = A ∧ v < s))
  · rw [if_pos c1, if_pos (by omega)]
  · rw [if_neg c1]
    by_cases c2 : 0 ≤ v ∧ v < u ∧ (v < A ∨ (v = A ∧ u < s))
    · rw [if_pos c2, if_neg (by omega), if_pos (by omega)]
    · rw [if_neg c2, if_neg (by omega), if_neg (by omega)]
set_option maxHeartbeats 400000 in
theorem zdg_o {A B u v : Int} (h1 : ¬ (u = A ∧ v = B)) (h2 : ¬ (v = A ∧ u = B)) : zdg A (B + 1) u v = zdg A B u v := by
  unfold zdg
  by_cases c1 : 0 ≤ u ∧ u < v ∧ (u < A ∨ (u = A ∧ v < B))
  · rw [if_pos c1, if_pos (by omega)]
  · rw [if_neg c1, if_neg (by omega)]
    by_cases c2 : 0 ≤ v ∧ v < u ∧ (v < A ∨ (v = A ∧ u < B))
    · rw [if_pos c2, if_pos (by omega)]
    · rw [if_neg c2, if_neg (by omega)]
set_option maxHeartbeats 400000 in
theorem zdg_p {A B : Int} (h0 : 0 ≤ A) (h : A < B) : zdg A B A B = 0 ∧ zdg A (B + 1) A B = 1 ∧ zdg A B B A = 0 ∧ zdg A (B + 1) B A = -1 := by
  unfold zdg
  refine ⟨?_, ?_, ?_, ?_⟩
  · rw [if_neg (by omega), if_neg (by omega)]
  · rw [if_pos (by omega)]
  · rw [if_neg (by omega), if_neg (by omega)]
  · rw [if_neg (by omega), if_pos (by omega)]
set_option maxHeartbeats 400000 in
theorem zww {x y : Int} : zw32 (zw32 x + y) = zw32 (x + y) := by unfold zw32; omega
set_option maxHeartbeats 400000 in
theorem zww' {x y : Int} : zw32 (zw32 x - y) = zw32 (x - y) := by unfold zw32; omega
set_option maxHeartbeats 400000 in
theorem zwi {x : Int} : zw32 (zw32 x) = zw32 x := by unfold zw32; omega
set_option maxHeartbeats 400000 in
theorem s1_countLead {μ : zMem} (hG : zG0 μ) {g : Int → Int → Int} {a b : Int} (ha : 0 ≤ a ∧ a < 16) (hb : 0 ≤ b ∧ b < 16) (hab : a ≠ b) : fX1_countLead 34 a b (zlm μ g) = some (0, zlm μ (fun x y => if x = b ∧ y = a then zw32 (g b a - 1) else if x = a ∧ y = b then zw32 (g a b + 1) else g x y)) := by
  unfold fX1_countLead
  have e : (if b = a ∧ a = b then zw32 (g a b + 1) else g b a) = g b a := if_neg (fun q => hab q.2)
  simp (disch := omega) only [zlm_o, g_36 hG, al37, as37, zlm_i, zlm_u, e, ↓zcall_ok, zcall_ok, ↓zjn_ok, zjn_ok, ↓zbl_0, zbl_0, ↓zbl_1, zbl_1, ↓if_pos, if_pos, ↓if_neg, if_neg, ↓zb_ite, zb_ite, ↓zb_itn, zb_itn, ↓gf_34, gf_34, ↓pf_34, pf_34, ↓vc_34, vc_34, ↓al_36, al_36, ↓ln_36, ln_36, if_true, if_false, not_true_eq_false, not_false_eq_true, zu_eq, zu_a, zu_j, ge_iff_le, gt_iff_lt, ne_eq, Int.cast_ofNat_Int, Int.add_zero, Int.zero_add, Int.reduceAdd, Int.reduceSub, Int.reduceMul, Int.reduceNeg, ↓gq_34_0 hG, ↓gq_34_1 hG, ↓gq_34_2 hG, g_34_0 hG, g_34_1 hG, g_34_2 hG, g_36_0 hG, g_36_1 hG, g_36_2 hG, g_36_3 hG, g_36_4 hG, g_36_5 hG, g_36_6 hG, g_36_7 hG, g_36_8 hG, g_36_9 hG, g_36_10 hG, g_36_11 hG, g_36_12 hG, g_36_13 hG, g_36_14 hG, g_36_15 hG]
/-- places of sayings in a row of s -/
def zpS (f pl : Int → Int) (s : Int) : Prop := ∀ x, (pl x = -1 ∧ ∀ k, 0 ≤ k → k < s → f k ≠ x) ∨ (0 ≤ pl x ∧ pl x < s ∧ f (pl x) = x)
set_option maxHeartbeats 400000 in
theorem zpS_at {f pl : Int → Int} {s k : Int} (h : zpS f pl s) (hd : ∀ k l : Int, 0 ≤ k → k < l → l < s → f k ≠ f l) (h0 : 0 ≤ k) (h1 : k < s) : pl (f k) = k := by
  rcases h (f k) with ⟨-, q⟩ | ⟨a, b, c⟩
  · exact absurd rfl (q k h0 h1)
  · rcases Int.lt_trichotomy (pl (f k)) k with z | z | z
    · exact absurd c (hd _ _ a z h1)
    · exact z
    · exact absurd c.symm (hd _ _ h0 z b)
set_option maxHeartbeats 400000 in
theorem zpS_lt {f pl : Int → Int} {s : Int} (h : zpS f pl s) (hs : 0 ≤ s) (x : Int) : pl x < s ∧ -1 ≤ pl x := by
  rcases h x with ⟨a, -⟩ | ⟨a, b, -⟩ <;> omega
set_option maxHeartbeats 400000 in
theorem zlm_P {μ : zMem} {g : Int → Int → Int} {p : Int} (h0 : 0 ≤ p) (h1 : p < 10) (j : Int) : zlm μ g (zbP p) j = μ (zbP p) j := zlm_o (by unfold zbP; omega)
set_option maxHeartbeats 400000 in
theorem zlm_Pr {μ : zMem} {g : Int → Int → Int} {p w : Int} (h0 : 0 ≤ p) (h1 : p < 10) (h2 : 0 ≤ w) (j : Int) : zlm μ g (zbP p + 2 + w) j = μ (zbP p + 2 + w) j := zlm_o (by unfold zbP; omega)
set_option maxHeartbeats 400000 in
theorem s1_countLeadsOf {μ : zMem} (hG : zG0 μ) {p : Int} (h0 : 0 ≤ p) (h1 : p < 10) {f pl : Int → Int} {s : Nat} (hs : μ (zbP p) 1 = s) (h16 : s ≤ 16) (hf : ∀ k, f k = μ (zbP p + 2) k) (hfr : ∀ k : Int, 0 ≤ k → k < s → 0 ≤ f k ∧ f k < 16) (hd : ∀ k l : Int, 0 ≤ k → k < l → l < s → f k ≠ f l)
    (hpl : zpS f pl s) {g : Int → Int → Int} (hg : ∀ a b, zw32 (g a b) = g a b) : fX1_countLeadsOf 34 (zbP p) (zlm μ g) = some (0, zlm μ (fun a b => zw32 (g a b + zsg (pl a) (pl b)))) := by
  have hz : zbP p = 53 + 6 * p := rfl
  have hlt := fun x => zpS_lt hpl (by omega) x
  have hsz : ∀ g', fX6_size (zbP p) (zlm μ g') = some ((s : Int), zlm μ g') := fun g' => by rw [s6_size h0 h1, zlm_P h0 h1, hs]
  have hpt : ∀ g' (k : Int), 0 ≤ k → k < s → fX6_part (zbP p) k 0 (zlm μ g') = some (f k, zlm μ g') := fun g' k k0 k1 => by
    rw [s6_part (zlm_G0 hG) h0 h1 (by rw [zlm_P h0 h1]; omega) ⟨k0, by rw [zlm_P h0 h1]; omega⟩ ⟨by omega, by omega⟩, zlm_Pr h0 h1 (by omega), Int.add_zero, hf]
  rw [eX1_countLeadsOf]
  unfold lX1_countLeadsOf_2
  refine zle1 (fun n => (n : Int)) (fun n => zlm μ (fun a b => zw32 (g a b + zdg n (n + 1) (pl a) (pl b)))) rfl ?_ s (by omega) (fun k A hA => ?_) (fun k => ?_)
  · refine zlm_congr (fun a b _ _ _ _ => ?_)
    show zw32 (g a b + zdg 0 1 (pl a) (pl b)) = g a b
    rw [zdg_0, Int.add_zero, hg]
  · have hup := zupn (n := A) (by omega)
    have key : ∀ b0 : Int, b0 = ((A + 1 : Nat) : Int) → lX1_countLeadsOf_1 34 (zbP p) A k b0 (zlm μ (fun a b => zw32 (g a b + zdg A (A + 1) (pl a) (pl b)))) = k ((A + 1 : Nat) : Int) (zlm μ (fun a b => zw32 (g a b + zdg ((A + 1 : Nat) : Int) (((A + 1 : Nat) : Int) + 1) (pl a) (pl b)))) := by
      intro b0 hb0
      rw [hb0]
      obtain ⟨m, hm⟩ : ∃ m : Nat, A + 1 + m = s := ⟨s - (A + 1), by omega⟩
      have hm0 : zlm μ (fun a b => zw32 (g a b + zdg A ((A + 1 + 0 : Nat) : Int) (pl a) (pl b))) = zlm μ (fun a b => zw32 (g a b + zdg A ((A : Int) + 1) (pl a) (pl b))) := by
        rw [show ((A + 1 + 0 : Nat) : Int) = (A : Int) + 1 by omega]
      unfold lX1_countLeadsOf_1
      refine zle1 (fun n => ((A + 1 + n : Nat) : Int)) (fun n => zlm μ (fun a b => zw32 (g a b + zdg A ((A + 1 + n : Nat) : Int) (pl a) (pl b)))) rfl hm0 m (by omega) (fun k2 n hn => ?_) (fun k2 => ?_)
      · obtain ⟨B, hB⟩ : ∃ B : Nat, A + 1 + n = B := ⟨_, rfl⟩
        have hB2 : A + 1 + (n + 1) = B + 1 := by omega
        simp only [hB, hB2]
        have eA := hpt (fun a b => zw32 (g a b + zdg A B (pl a) (pl b))) A (by omega) (by omega)
        have eB := hpt (fun a b => zw32 (g a b + zdg A B (pl a) (pl b))) B (by omega) (by omega)
        have hne := hd A B (by omega) (by omega) (by omega)
        have rA := hfr A (by omega) (by omega)
        have rB := hfr B (by omega) (by omega)
        have pA := zpS_at hpl hd (k := A) (by omega) (by omega)
        have pB := zpS_at hpl hd (k := B) (by omega) (by omega)
        have ec := s1_countLead hG (g := fun a b => zw32 (g a b + zdg A B (pl a) (pl b))) rA rB hne
        obtain ⟨d1, d2, d3, d4⟩ := zdg_p (A := A) (B := B) (by omega) (by omega)
        have em : zlm μ (fun x y => if x = f B ∧ y = f A then zw32 (zw32 (g (f B) (f A) + zdg A B (pl (f B)) (pl (f A))) - 1) else if x = f A ∧ y = f B then zw32 (zw32 (g (f A) (f B) + zdg A B (pl (f A)) (pl (f B))) + 1) else zw32 (g x y + zdg A B (pl x) (pl y))) = zlm μ (fun a b => zw32 (g a b + zdg A ((B + 1 : Nat) : Int) (pl a) (pl b))) := by
          refine zlm_congr (fun x y _ _ _ _ => ?_)
          rw [show ((B + 1 : Nat) : Int) = (B : Int) + 1 by omega]
          by_cases c1 : x = f B ∧ y = f A
          · rw [if_pos c1, c1.1, c1.2, pA, pB, d3, d4, zww', Int.add_zero]
            rfl
          · rw [if_neg c1]
            by_cases c2 : x = f A ∧ y = f B
            · rw [if_pos c2, c2.1, c2.2, pA, pB, d1, d2, zww, Int.add_zero]
            · rw [if_neg c2, zdg_o]
              · rintro ⟨q1, q2⟩
                rcases hpl x with ⟨z, -⟩ | ⟨-, -, z⟩
                · omega
                · rcases hpl y with ⟨w, -⟩ | ⟨-, -, w⟩
                  · omega
                  · rw [q1] at z
                    rw [q2] at w
                    exact c2 ⟨z.symm, w.symm⟩
              · rintro ⟨q1, q2⟩
                rcases hpl x with ⟨z, -⟩ | ⟨-, -, z⟩
                · omega
                · rcases hpl y with ⟨w, -⟩ | ⟨-, -, w⟩
                  · omega
                  · rw [q2] at z
                    rw [q1] at w
                    exact c1 ⟨z.symm, w.symm⟩
        rw [← em]
        simp (disch := omega) only [↓(vcP_of h0 h1 (hsz (fun a b => zw32 (g a b + zdg A B (pl a) (pl b))))), ↓(vcP_of h0 h1 eA), ↓(vcP_of h0 h1 eB), ↓(vq_34 ec), zupn, ↓zcall_ok, zcall_ok, ↓zjn_ok, zjn_ok, ↓zbl_0, zbl_0, ↓zbl_1, zbl_1, ↓if_pos, if_pos, ↓if_neg, if_neg, ↓zb_ite, zb_ite, ↓zb_itn, zb_itn, ↓gf_34, gf_34, ↓pf_34, pf_34, ↓vc_34, vc_34, if_true, if_false, not_true_eq_false, not_false_eq_true, zu_eq, zu_a, zu_j, ge_iff_le, gt_iff_lt, ne_eq, Int.cast_ofNat_Int, Int.add_zero, Int.zero_add, Int.reduceAdd, Int.reduceSub, Int.reduceMul, Int.reduceNeg]
      · have hx : ((A + 1 + m : Nat) : Int) = (s : Int) := by omega
        have em : zlm μ (fun a b => zw32 (g a b + zdg A s (pl a) (pl b))) = zlm μ (fun a b => zw32 (g a b + zdg ((A + 1 : Nat) : Int) (((A + 1 : Nat) : Int) + 1) (pl a) (pl b))) := by
          refine zlm_congr (fun x y _ _ _ _ => ?_)
          rw [zdg_n (hlt x).1 (hlt y).1, show ((A + 1 : Nat) : Int) = (A : Int) + 1 by omega]
        simp only [hx]
        rw [← em]
        simp (disch := omega) only [↓(vcP_of h0 h1 (hsz (fun a b => zw32 (g a b + zdg A s (pl a) (pl b))))), zupn, ↓zcall_ok, zcall_ok, ↓zjn_ok, zjn_ok, ↓zbl_0, zbl_0, ↓zbl_1, zbl_1, ↓if_pos, if_pos, ↓if_neg, if_neg, ↓zb_ite, zb_ite, ↓zb_itn, zb_itn, ↓gf_34, gf_34, ↓pf_34, pf_34, ↓vc_34, vc_34, if_true, if_false, not_true_eq_false, not_false_eq_true, zu_eq, zu_a, zu_j, ge_iff_le, gt_iff_lt, ne_eq, Int.cast_ofNat_Int, Int.add_zero, Int.zero_add, Int.reduceAdd, Int.reduceSub, Int.reduceMul, Int.reduceNeg]
    have key2 := key _ rfl
    simp (disch := omega) only [↓(vcP_of h0 h1 (hsz (fun a b => zw32 (g a b + zdg A (A + 1) (pl a) (pl b))))), zupn, key2, ↓zcall_ok, zcall_ok, ↓zjn_ok, zjn_ok, ↓zbl_0, zbl_0, ↓zbl_1, zbl_1, ↓if_pos, if_pos, ↓if_neg, if_neg, ↓zb_ite, zb_ite, ↓zb_itn, zb_itn, ↓gf_34, gf_34, ↓pf_34, pf_34, ↓vc_34, vc_34, if_true, if_false, not_true_eq_false, not_false_eq_true, zu_eq, zu_a, zu_j, ge_iff_le, gt_iff_lt, ne_eq, Int.cast_ofNat_Int, Int.add_zero, Int.zero_add, Int.reduceAdd, Int.reduceSub, Int.reduceMul, Int.reduceNeg]
  · have em : zlm μ (fun a b => zw32 (g a b + zdg s (s + 1) (pl a) (pl b))) = zlm μ (fun a b => zw32 (g a b + zsg (pl a) (pl b))) := by
      refine zlm_congr (fun x y _ _ _ _ => ?_)
      rw [zdg_e (hlt x).1 (hlt y).1]
    rw [← em]
    simp (disch := omega) only [↓(vcP_of h0 h1 (hsz (fun a b => zw32 (g a b + zdg s (s + 1) (pl a) (pl b))))), ↓zcall_ok, zcall_ok, ↓zjn_ok, zjn_ok, ↓zbl_0, zbl_0, ↓zbl_1, zbl_1, ↓if_pos, if_pos, ↓if_neg, if_neg, ↓zb_ite, zb_ite, ↓zb_itn, zb_itn, ↓gf_34, gf_34, ↓pf_34, pf_34, ↓vc_34, vc_34, if_true, if_false, not_true_eq_false, not_false_eq_true, zu_eq, zu_a, zu_j, ge_iff_le, gt_iff_lt, ne_eq, Int.cast_ofNat_Int, Int.add_zero, Int.zero_add, Int.reduceAdd, Int.reduceSub, Int.reduceMul, Int.reduceNeg]
