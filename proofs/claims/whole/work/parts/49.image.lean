/-! images -/
def wr (r : Nat → Int32) (a : Nat) (s : Nat → Int32) (i : Nat) : Nat → Int32 := fun j => if a ≤ j ∧ j < a + i then s (j - a) else r j
theorem wr_0 (r : Nat → Int32) (a : Nat) (s : Nat → Int32) : wr r a s 0 = r := by
  funext j
  unfold wr
  rw [if_neg (by omega)]
theorem wr_s (r : Nat → Int32) (a : Nat) (s : Nat → Int32) (i : Nat) : upd (wr r a s i) (a + i) (s i) = wr r a s (i + 1) := by
  funext j
  unfold upd wr
  by_cases h1 : j = a + i
  · rw [if_pos h1, if_pos (by omega), h1]
    congr 1; omega
  · rw [if_neg h1]
    by_cases h2 : a ≤ j ∧ j < a + i
    · rw [if_pos h2, if_pos (by omega)]
    · rw [if_neg h2, if_neg (by omega)]
theorem wr_in {r s : Nat → Int32} {a i j : Nat} (h : j < i) : wr r a s i (a + j) = s j := by
  unfold wr
  rw [if_pos (by omega)]
  congr 1; omega
theorem wr_out {r s : Nat → Int32} {a i j : Nat} (h : j < a ∨ a + i ≤ j) : wr r a s i j = r j := by
  unfold wr
  rw [if_neg (by omega)]
theorem upd_n {f : Nat → Int32} {i j : Nat} {x : Int32} (h : j ≠ i) : upd f i x j = f j := by unfold upd; rw [if_neg h]
def tw (r : Nat → Int32) (b : Nat) (s1 s2 s3 : Nat → Int32) (i : Nat) : Nat → Int32 := wr (wr (wr r (b + 7) s1 i) (b + 19) s2 i) (b + 31) s3 i
theorem tw_0 (r : Nat → Int32) (b : Nat) (s1 s2 s3 : Nat → Int32) : tw r b s1 s2 s3 0 = r := by
  unfold tw
  rw [wr_0, wr_0, wr_0]
theorem wr_upd {r s : Nat → Int32} {a i k : Nat} {x : Int32} (h : k < a ∨ a + i ≤ k) : upd (wr r a s i) k x = wr (upd r k x) a s i := by
  funext j
  unfold upd wr
  by_cases h1 : j = k
  · rw [if_pos h1, if_neg (by omega)]
    exact (if_pos h1).symm
  · rw [if_neg h1]
    show _ = if a ≤ j ∧ j < a + i then s (j - a) else (if j = k then x else r j)
    rw [if_neg h1]
theorem tw_s (r : Nat → Int32) (b : Nat) (s1 s2 s3 : Nat → Int32) (i : Nat) (hi : i < 12) : upd (upd (upd (tw r b s1 s2 s3 i) (b + 7 + i) (s1 i)) (b + 19 + i) (s2 i)) (b + 31 + i) (s3 i) = tw r b s1 s2 s3 (i + 1) := by
  unfold tw
  rw [wr_upd (k := b + 7 + i) (by omega), wr_upd (k := b + 7 + i) (by omega), wr_s, wr_upd (k := b + 19 + i) (by omega), wr_s, wr_s]
theorem im_L105 (k : Int32 → ss_M → Option (Int32 × ss_M)) (τ : ss_M) (r : Nat → Int32) (b : Nat) (hb : b ≤ 258) : ∀ m i : Nat, i + m = 12 → ∀ n, m < n → f_X8_image_L105 k n (nI b) (nI i) (sAu τ 31 0 (tw r b (sA τ 17 0) (sA τ 18 0) (sA τ 19 0) i)) = k (nI b) (sAu τ 31 0 (tw r b (sA τ 17 0) (sA τ 18 0) (sA τ 19 0) 12)) := by
  intro m
  induction m with
  | zero =>
    intro i hi n hn
    obtain ⟨n', rfl⟩ : ∃ n', n = n' + 1 := ⟨n - 1, by omega⟩
    have : i = 12 := by omega
    subst this
    rw [f_X8_image_L105, if_pos (lle 12 12 (i := 12) (by decide) (by decide))]
  | succ m ih =>
    intro i hi n hn
    obtain ⟨n', rfl⟩ : ∃ n', n = n' + 1 := ⟨n - 1, by omega⟩
    have e1 : nI b + 7 + nI i = nI (b + 7 + i) := by rw [show nI b + 7 = nI (b + 7) from nI_add b 7, nI_add]
    have e2 : nI b + 19 + nI i = nI (b + 19 + i) := by rw [show nI b + 19 = nI (b + 19) from nI_add b 19, nI_add]
    have e3 : nI b + 31 + nI i = nI (b + 31 + i) := by rw [show nI b + 31 = nI (b + 31) from nI_add b 31, nI_add]
    have q1 : ∀ Z v, sA (sAu Z 31 0 v) 17 0 = sA Z 17 0 := fun Z v => by rw [sA_n _ _ (by omega)]
    have q2 : ∀ Z v, sA (sAu Z 31 0 v) 18 0 = sA Z 18 0 := fun Z v => by rw [sA_n _ _ (by omega)]
    have q3 : ∀ Z v, sA (sAu Z 31 0 v) 19 0 = sA Z 19 0 := fun Z v => by rw [sA_n _ _ (by omega)]
    have e12 : gd (nI i) 12 = true := gd_nI (by omega) (by decide)
    have g1 : gd (nI (b + 7 + i)) 516 = true := gd_nI (by omega) (by decide)
    have g2 : gd (nI (b + 19 + i)) 516 = true := gd_nI (by omega) (by decide)
    have g3 : gd (nI (b + 31 + i)) 516 = true := gd_nI (by omega) (by decide)
    have d1 : (nI (b + 7 + i)).toNatClampNeg = b + 7 + i := nI_clamp (by omega)
    have d2 : (nI (b + 19 + i)).toNatClampNeg = b + 19 + i := nI_clamp (by omega)
    have d3 : (nI (b + 31 + i)).toNatClampNeg = b + 31 + i := nI_clamp (by omega)
    have d4 : (nI i).toNatClampNeg = i := nI_clamp (by omega)
    rw [f_X8_image_L105, if_neg (lnle 12 12 (i := i) (by omega)), e1, e2, e3, if_pos e12, if_pos g1, if_pos e12, if_pos g2, ss_let, if_pos e12, if_pos g3, d1, d2, d3, d4, nIa1]
    simp only [sA_m, sA_2, q1, q2, q3]
    rw [tw_s _ _ _ _ _ _ (by omega)]
    exact ih (i + 1) (by omega) n' (by omega)
theorem im_L170 (k : ss_M → Option (Int32 × ss_M)) (τ : ss_M) (r : Nat → Int32) (b : Nat) (hb : b ≤ 258) : ∀ m i : Nat, i + m = 6 → ∀ n, m < n → f_X8_image_L170 (nI b) k n (nI i) (sAu τ 31 0 (wr r (b + 43) (sA τ 20 0) i)) = k (sAu τ 31 0 (wr r (b + 43) (sA τ 20 0) 6)) := by
  intro m
  induction m with
  | zero =>
    intro i hi n hn
    obtain ⟨n', rfl⟩ : ∃ n', n = n' + 1 := ⟨n - 1, by omega⟩
    have : i = 6 := by omega
    subst this
    rw [f_X8_image_L170, if_pos (lle 6 6 (i := 6) (by decide) (by decide))]
  | succ m ih =>
    intro i hi n hn
    obtain ⟨n', rfl⟩ : ∃ n', n = n' + 1 := ⟨n - 1, by omega⟩
    have e1 : nI b + 43 + nI i = nI (b + 43 + i) := by rw [show nI b + 43 = nI (b + 43) from nI_add b 43, nI_add]
    have q1 : ∀ v, sA (sAu τ 31 0 v) 20 0 = sA τ 20 0 := fun v => by rw [sA_n _ _ (by omega)]
    have d1 : (nI (b + 43 + i)).toNatClampNeg = b + 43 + i := nI_clamp (by omega)
    have d4 : (nI i).toNatClampNeg = i := nI_clamp (by omega)
    rw [f_X8_image_L170, if_neg (lnle 6 6 (i := i) (by omega)), e1, if_pos (gd_nI (by omega) (by decide)), if_pos (gd_nI (by omega) (by decide)), d1, d4, nIa1, sA_m, sA_2, q1, wr_s]
    exact ih (i + 1) (by omega) n' (by omega)
theorem im_L201 (τ : ss_M) (r : Nat → Int32) (b : Nat) (hb : b ≤ 258) : ∀ m i : Nat, i + m = 208 → ∀ n, m < n → f_X8_image_L201 (nI b) n (nI i) (sAu τ 31 0 (wr r (b + 49) (sA τ 23 0) i)) = some (1, sAu τ 31 0 (wr r (b + 49) (sA τ 23 0) 208)) := by
  intro m
  induction m with
  | zero =>
    intro i hi n hn
    obtain ⟨n', rfl⟩ : ∃ n', n = n' + 1 := ⟨n - 1, by omega⟩
    rw [f_X8_image_L201, if_pos (lle 208 208 (i := i) (by omega) (by omega)), show i = 208 by omega]
  | succ m ih =>
    intro i hi n hn
    obtain ⟨n', rfl⟩ : ∃ n', n = n' + 1 := ⟨n - 1, by omega⟩
    have e1 : nI b + 49 + nI i = nI (b + 49 + i) := by rw [show nI b + 49 = nI (b + 49) from nI_add b 49, nI_add]
    have q1 : ∀ v, sA (sAu τ 31 0 v) 23 0 = sA τ 23 0 := fun v => by rw [sA_n _ _ (by omega)]
    have d1 : (nI (b + 49 + i)).toNatClampNeg = b + 49 + i := nI_clamp (by omega)
    have d4 : (nI i).toNatClampNeg = i := nI_clamp (by omega)
    rw [f_X8_image_L201, if_neg (lnle 208 208 (i := i) (by omega)), e1, if_pos (gd_nI (by omega) (by decide)), if_pos (gd_nI (by omega) (by decide)), d1, d4, nIa1, sA_m, sA_2, q1, wr_s]
    exact ih (i + 1) (by omega) n' (by omega)
def imR (τ : ss_M) (r : Nat → Int32) (b : Nat) : Nat → Int32 := wr (wr (tw (upd (upd (upd (upd (upd (upd (upd r b (sG τ 18 0)) (b + 1) (sG τ 19 0)) (b + 2) (sG τ 17 0)) (b + 3) (sG τ 20 0)) (b + 4) (sG τ 21 0)) (b + 5) (sG τ 22 0)) (b + 6) (sG τ 27 0)) b (sA τ 17 0) (sA τ 18 0) (sA τ 19 0) 12) (b + 43) (sA τ 20 0) 6) (b + 49) (sA τ 23 0) 208
theorem w_image1 {k : Nat} (hk : k < 2) (τ : ss_M) : f_X8_image (nI k) τ = some (1, sAu τ 31 0 (imR τ (sA τ 31 0) (258 * k))) := by
  have hb : 258 * k ≤ 258 := by omega
  obtain ⟨b, hbd⟩ : ∃ b, b = 258 * k := ⟨_, rfl⟩
  rw [← hbd] at hb ⊢
  have e0 : (258 : Int32) * nI k = nI b := by rw [hbd]; exact pk_mul 258 k
  have e1 : nI b + 1 = nI (b + 1) := nI_add b 1
  have e2 : nI b + 2 = nI (b + 2) := nI_add b 2
  have e3 : nI b + 3 = nI (b + 3) := nI_add b 3
  have e4 : nI b + 4 = nI (b + 4) := nI_add b 4
  have e5 : nI b + 5 = nI (b + 5) := nI_add b 5
  have e6 : nI b + 6 = nI (b + 6) := nI_add b 6
  have hr : 0 ≤ nI k ∧ nI k ≤ 1 := ⟨nI_pos' (by omega), rle 1 1 (by omega)⟩
  obtain ⟨r, hrr⟩ : ∃ r, r = upd (upd (upd (upd (upd (upd (upd (sA τ 31 0) b (sG τ 18 0)) (b + 1) (sG τ 19 0)) (b + 2) (sG τ 17 0)) (b + 3) (sG τ 20 0)) (b + 4) (sG τ 21 0)) (b + 5) (sG τ 22 0)) (b + 6) (sG τ 27 0) := ⟨_, rfl⟩
  have h1 := im_L105 f_X8_image_j168 τ r b hb 12 0 rfl FU (FU_gt (by decide))
  have h2 := im_L170 (f_X8_image_j199 (nI b)) τ (tw r b (sA τ 17 0) (sA τ 18 0) (sA τ 19 0) 12) b hb 6 0 rfl FU (FU_gt (by decide))
  have h3 := im_L201 τ (wr (tw r b (sA τ 17 0) (sA τ 18 0) (sA τ 19 0) 12) (b + 43) (sA τ 20 0) 6) b hb 208 0 rfl FU (FU_gt (by decide))
  rw [tw_0] at h1
  rw [wr_0] at h2 h3
  have e : f_X8_image (nI k) τ = f_X8_image_L105 f_X8_image_j168 FU (nI b) 0 (sAu τ 31 0 r) := by
    unfold f_X8_image
    rw [w_in1 hr, ss_bd_e, if_neg n10, e0, e1, e2, e3, e4, e5, e6]
    rw [if_pos (gd_nI (by omega) (by decide)), if_pos (gd_nI (by omega) (by decide)), ss_let, if_pos (gd_nI (by omega) (by decide)), if_pos (gd_nI (by omega) (by decide)), ss_let, if_pos (gd_nI (by omega) (by decide)), if_pos (gd_nI (by omega) (by decide)), ss_let, if_pos (gd_nI (by omega) (by decide))]
    rw [nI_clamp (by omega), nI_clamp (by omega), nI_clamp (by omega), nI_clamp (by omega), nI_clamp (by omega), nI_clamp (by omega), nI_clamp (by omega)]
    simp only [sA_2, sA_m, sG_A]
    rw [← hrr]
  rw [e]
  refine h1.trans (h2.trans (h3.trans ?_))
  unfold imR
  rw [hrr]
