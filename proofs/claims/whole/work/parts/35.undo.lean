/-! what may be undone: remembered, dropped, brought back -/
theorem lit_le {a i : Nat} (ha : a < 2 ^ 31) (hi : i < 2 ^ 31) (h : a ≤ i) : nI a ≤ nI i := nI_le h hi
theorem lit_nle {a i : Nat} (ha : a < 2 ^ 31) (hi : i < 2 ^ 31) (h : i < a) : ¬ nI a ≤ nI i := fun q => absurd ((nI_leI ha hi).mp q) (by omega)
theorem lle (c : Int32) (a : Nat) {i : Nat} (h : a ≤ i) (hi : i < 2 ^ 31) (hc : c = nI a := by rfl) : c ≤ nI i := by rw [hc]; exact nI_le h hi
theorem lnle (c : Int32) (a : Nat) {i : Nat} (h : i < a) (ha : a < 2 ^ 31 := by decide) (hc : c = nI a := by rfl) : ¬ c ≤ nI i := by rw [hc]; exact lit_nle ha (by omega) h
theorem rle (c : Int32) (a : Nat) {i : Nat} (h : i ≤ a) (ha : a < 2 ^ 31 := by decide) (hc : c = nI a := by rfl) : nI i ≤ c := by rw [hc]; exact nI_le h ha
theorem rnle (c : Int32) (a : Nat) {i : Nat} (h : a < i) (hi : i < 2 ^ 31) (hc : c = nI a := by rfl) : ¬ nI i ≤ c := by rw [hc]; exact lit_nle hi (by omega) h
def rotv (r : Nat → Nat) (i : Nat) : Nat → Nat := fun j => if j + 1 < i then r (j + 1) else r j
theorem rotv_1 (r : Nat → Nat) : rotv r 1 = r := by
  funext j
  unfold rotv
  rw [if_neg (by omega)]
theorem rotv_s (r : Nat → Nat) {i : Nat} (h : 1 ≤ i) : sUp (rotv r i) (i - 1) (rotv r i i) = rotv r (i + 1) := by
  funext j
  unfold sUp rotv
  by_cases h1 : j = i - 1
  · rw [if_pos h1, if_neg (by omega), if_pos (by omega)]
    congr 1; omega
  · rw [if_neg h1]
    by_cases h2 : j + 1 < i
    · rw [if_pos h2, if_pos (by omega)]
    · rw [if_neg h2, if_neg (by omega)]
theorem drop_L (o : Nat) (k : ss_M → Option ss_M) (σ : ss_M) (r : Nat → Nat) (hr : ∀ j, j < 8 → r j < 36) : ∀ m i : Nat, i + m = 8 → 1 ≤ i → ∀ n, m < n → f_X4_dropOldest_L9 o k n (nI i) (sRu σ o (rotv r i)) = k (sRu σ o (rotv r 8)) := by
  intro m
  induction m with
  | zero =>
    intro i hi h1 n hn
    obtain ⟨n', rfl⟩ : ∃ n', n = n' + 1 := ⟨n - 1, by omega⟩
    have : i = 8 := by omega
    subst this
    rw [f_X4_dropOldest_L9, if_pos (lle 8 8 (i := 8) (by decide) (by decide))]
  | succ m ih =>
    intro i hi h1 n hn
    obtain ⟨n', rfl⟩ : ∃ n', n = n' + 1 := ⟨n - 1, by omega⟩
    have e1 : nI i - 1 = nI (i - 1) := nIs (b := 1) (by omega)
    rw [f_X4_dropOldest_L9, if_neg (lnle 8 8 (i := i) (by omega)), if_pos (gd_nI (by omega) (by decide)), sR_m, nI_clamp (by omega)]
    have h36 : rotv r i i < 36 := by
      unfold rotv
      rw [if_neg (by omega)]
      exact hr i (by omega)
    rw [if_pos h36, e1, if_pos (gd_nI (by omega) (by decide)), nI_clamp (by omega), nIa1, sR_2, rotv_s r h1]
    exact ih (i + 1) (by omega) (by omega) n' (by omega)
def gDrop (g : pPg) : pPg := ((g.1.1, g.1.2.1, g.1.2.2.1, g.1.2.2.2.1, 7), g.2.1, g.2.2.1, g.2.2.2.1, fun j => g.2.2.2.2 (j + 1))
theorem v_drop {n : Nat} {g : pPg} {σ : ss_M} (hL : LAY σ) (hg : gOk n g) (h : cPg σ 0 g) (hq : g.1.2.2.2.2 = 8) : ∃ σ', f_X4_dropOldest 0 σ = some σ' ∧ eC σ σ' ∧ cPg σ' 0 (gDrop g) ∧ gOk n (gDrop g) := by
  have h0 := hL 0 (by decide)
  have hr : ∀ j, j < 8 → sR σ 0 j < 36 := fun j hj => by have := h0.1 j hj; omega
  have e0 : sRu σ 0 (rotv (sR σ 0) 1) = σ := by rw [rotv_1, ex_sR]
  have hl := drop_L 0 (f_X4_dropOldest_j35 σ 0) σ (sR σ 0) hr 7 1 rfl (by decide) FU (FU_gt (by decide))
  rw [e0] at hl
  have e7 : (7 : Int32).toNatClampNeg = 7 := by decide
  refine ⟨sGu (sRu σ 0 (sUp (rotv (sR σ 0) 8) 7 (sR σ 0 0))) 7 0 7, ?_, ?_, ?_, ?_⟩
  · unfold f_X4_dropOldest
    rw [if_pos (show gd (0 : Int32) 8 = true by decide), c_0, if_pos (hr 0 (by decide))]
    refine Eq.trans hl ?_
    unfold f_X4_dropOldest_j35
    rw [if_pos (show gd (7 : Int32) 8 = true by decide), sR_m, sR_2, e7, c_0]
  · have hv : ∀ j, j < 8 → sUp (rotv (sR σ 0) 8) 7 (sR σ 0 0) j = if j = 7 then sR σ 0 0 else sR σ 0 (j + 1) := fun j hj => by
      unfold sUp rotv
      by_cases h7 : j = 7
      · rw [if_pos h7, if_pos h7]
      · rw [if_neg h7, if_neg h7, if_pos (by omega)]
    have hp : ∀ p, 1 ≤ p → sR (sRu σ 0 (sUp (rotv (sR σ 0) 8) 7 (sR σ 0 0))) p = sR σ p := fun p hp => by rw [sR_R, if_neg (by omega)]
    refine ⟨fun p hp4 => ?_, fun p h1 h2 => ⟨fun f _ _ => ?_, rfl, rfl, ?_, fun k hk => ⟨?_, ?_, rfl, rfl⟩⟩, ⟨rfl, rfl⟩, ⟨rfl, rfl⟩, ⟨rfl, rfl, rfl⟩, rfl⟩
    · show (∀ j, j < 8 → 4 + 8 * p ≤ sR (sRu σ 0 (sUp (rotv (sR σ 0) 8) 7 (sR σ 0 0))) p j ∧ sR (sRu σ 0 (sUp (rotv (sR σ 0) 8) 7 (sR σ 0 0))) p j < 12 + 8 * p) ∧ ∀ i j, i < 8 → j < 8 → sR (sRu σ 0 (sUp (rotv (sR σ 0) 8) 7 (sR σ 0 0))) p i = sR (sRu σ 0 (sUp (rotv (sR σ 0) 8) 7 (sR σ 0 0))) p j → i = j
      by_cases hp0 : p = 0
      · subst hp0
        rw [sR_m]
        refine ⟨fun j hj => ?_, fun i j hi hj hij => ?_⟩
        · rw [hv j hj]
          by_cases h7 : j = 7
          · rw [if_pos h7]; exact h0.1 0 (by decide)
          · rw [if_neg h7]; exact h0.1 (j + 1) (by omega)
        · rw [hv i hi, hv j hj] at hij
          by_cases h7 : i = 7
          · by_cases h8 : j = 7
            · omega
            · rw [if_pos h7, if_neg h8] at hij
              have := h0.2 0 (j + 1) (by decide) (by omega) hij
              omega
          · by_cases h8 : j = 7
            · rw [if_neg h7, if_pos h8] at hij
              have := h0.2 (i + 1) 0 (by omega) (by decide) hij
              omega
            · rw [if_neg h7, if_neg h8] at hij
              have := h0.2 (i + 1) (j + 1) (by omega) (by omega) hij
              omega
      · rw [hp p (by omega)]
        exact hL p hp4
    · rw [sG_G, if_neg (by omega)]; rfl
    · exact hp p (by omega)
    · rw [sG_G, if_neg (by omega)]; rfl
    · rw [sG_G, if_neg (by omega)]; rfl
  · refine ⟨⟨h.1.1, h.1.2.1, h.1.2.2.1, h.1.2.2.2.1, rfl⟩, h.2.1, h.2.2.1, h.2.2.2.1, fun j hj => ?_⟩
    have hj7 : j < 7 := hj
    have := h.2.2.2.2 (j + 1) (by omega)
    have e : sR (sGu (sRu σ 0 (sUp (rotv (sR σ 0) 8) 7 (sR σ 0 0))) 7 0 7) 0 j = sR σ 0 (j + 1) := by
      rw [sR_G, sR_m]
      unfold sUp rotv
      rw [if_neg (by omega), if_pos (by omega)]
    rw [e]
    exact this
  · exact ⟨hg.1, hg.2.1, hg.2.2.1, hg.2.2.2.1, by show 7 ≤ 8; decide, hg.2.2.2.2.2.1, hg.2.2.2.2.2.2.1, fun j hj => by have hj7 : j < 7 := hj; exact hg.2.2.2.2.2.2.2 (j + 1) (by omega)⟩
/-- one more that may be undone -/
def gPush (g : pPg) : pPg := ((g.1.1, g.1.2.1, g.1.2.2.1, g.1.2.2.2.1, g.1.2.2.2.2 + 1), g.2.1, g.2.2.1, g.2.2.2.1, fun j => if j = g.1.2.2.2.2 then g.2.2.2.1 else g.2.2.2.2 j)
theorem gPush_ok {n : Nat} {g : pPg} (hg : gOk n g) (hq : g.1.2.2.2.2 < 8) : gOk n (gPush g) := by
  refine ⟨hg.1, hg.2.1, hg.2.2.1, hg.2.2.2.1, hq, hg.2.2.2.2.2.1, hg.2.2.2.2.2.2.1, fun j hj => ?_⟩
  show mkOk n g.1.2.2.1 (if j = g.1.2.2.2.2 then g.2.2.2.1 else g.2.2.2.2 j)
  have hj' : j < g.1.2.2.2.2 + 1 := hj
  by_cases e : j = g.1.2.2.2.2
  · rw [if_pos e]; exact hg.2.2.2.2.2.2.1
  · rw [if_neg e]; exact hg.2.2.2.2.2.2.2 j (by omega)
theorem v_push {n : Nat} {g : pPg} {σ : ss_M} (hL : LAY σ) (hg : gOk n g) (h : cPg σ 0 g) (hq : g.1.2.2.2.2 < 8) : ∃ σ', f_X4_remember_j13 0 σ = some σ' ∧ eC σ σ' ∧ cPg σ' 0 (gPush g) := by
  have h0 := hL 0 (by decide)
  have hb := h0.1 _ hq
  obtain ⟨σ2, e2, hE, hM⟩ := v_copy (o := sR σ 0 g.1.2.2.2.2) (o0 := 0) σ
  refine ⟨sGu σ2 7 0 (sG σ2 7 0 + 1), ?_, (hE.eC hL (Or.inr (by omega))).tr (eC_s (by unfold LAY; rw [hE.2.2.2.2]; exact hL) (Or.inl rfl) (by omega)), ?_⟩
  · unfold f_X4_remember_j13
    rw [h.1.2.2.2.2, if_pos (gd_nI hq (by decide)), nI_clamp (by omega), if_pos (by omega), e2]
    rfl
  · have e7 : sG σ2 7 0 = nI g.1.2.2.2.2 := (hE.1 7 0 (by omega)).trans h.1.2.2.2.2
    refine ⟨⟨?_, ?_, ?_, ?_, ?_⟩, fun i hi => ?_, fun i hi => ?_, ?_, fun j hj => ?_⟩
    · rw [sG_G, if_neg (by omega), hE.1 3 0 (by omega)]; exact h.1.1
    · rw [sG_G, if_neg (by omega), hE.1 4 0 (by omega)]; exact h.1.2.1
    · rw [sG_G, if_neg (by omega), hE.1 5 0 (by omega)]; exact h.1.2.2.1
    · rw [sG_G, if_neg (by omega), hE.1 6 0 (by omega)]; exact h.1.2.2.2.1
    · rw [sG_G, if_pos ⟨rfl, rfl⟩, e7, nIa1]; rfl
    · rw [sA_G, hE.2.1 4 0 (by omega)]; exact h.2.1 i hi
    · rw [sA_G, hE.2.1 5 0 (by omega)]; exact h.2.2.1 i hi
    · exact (hE.mk (by omega) h.2.2.2.1 : cMk σ2 g.1.2.2.1 0 g.2.2.2.1)
    · have hj' : j < g.1.2.2.2.2 + 1 := hj
      show cMk (sGu σ2 7 0 (sG σ2 7 0 + 1)) g.1.2.2.1 (sR (sGu σ2 7 0 (sG σ2 7 0 + 1)) 0 j) (if j = g.1.2.2.2.2 then g.2.2.2.1 else g.2.2.2.2 j)
      rw [sR_G, hE.2.2.2.2]
      by_cases e : j = g.1.2.2.2.2
      · rw [if_pos e, e]
        exact (hM g.1.2.2.1 g.2.2.2.1 hg.2.2.1 (by omega) h.2.2.2.1 : cMk σ2 _ _ _)
      · rw [if_neg e]
        have hne : sR σ 0 j ≠ sR σ 0 g.1.2.2.2.2 := fun q => e (h0.2 j _ (by omega) hq q)
        exact (hE.mk hne (h.2.2.2.2 j (by omega)) : cMk σ2 _ _ _)
def gRem (g : pPg) : pPg := if g.1.2.2.2.2 = 8 then gPush (gDrop g) else gPush g
theorem gRem_ok {n : Nat} {g : pPg} (hg : gOk n g) : gOk n (gRem g) := by
  unfold gRem
  by_cases h : g.1.2.2.2.2 = 8
  · rw [if_pos h]
    exact gPush_ok ⟨hg.1, hg.2.1, hg.2.2.1, hg.2.2.2.1, by show 7 ≤ 8; decide, hg.2.2.2.2.2.1, hg.2.2.2.2.2.2.1, fun j hj => by have hj7 : j < 7 := hj; exact hg.2.2.2.2.2.2.2 (j + 1) (by omega)⟩ (by show 7 < 8; decide)
  · rw [if_neg h]
    exact gPush_ok hg (by have := hg.2.2.2.2.1; omega)
theorem v_rem {n : Nat} {g : pPg} {σ : ss_M} (hL : LAY σ) (hg : gOk n g) (h : cPg σ 0 g) : ∃ σ', f_X4_remember 0 σ = some σ' ∧ eC σ σ' ∧ cPg σ' 0 (gRem g) := by
  unfold f_X4_remember gRem
  by_cases hq : g.1.2.2.2.2 = 8
  · rw [if_pos (by rw [h.1.2.2.2.2, hq]; rfl), if_pos hq]
    obtain ⟨σ1, e1, hE1, h1, hg1⟩ := v_drop hL hg h hq
    obtain ⟨σ2, e2, hE2, h2⟩ := v_push hE1.1 hg1 h1 (by show 7 < 8; decide)
    exact ⟨σ2, by rw [e1]; exact e2, hE1.tr hE2, h2⟩
  · have h8 := hg.2.2.2.2.1
    rw [if_neg (by rw [h.1.2.2.2.2]; exact fun q => hq ((nI_eq (b := 8) (by omega) (by decide)).mp q)), if_neg hq]
    exact v_push hL hg h (by omega)
/-- the last is brought back -/
def gBack (g : pPg) : pPg := ((g.1.1, g.1.2.1, g.1.2.2.1, g.1.2.2.2.1, g.1.2.2.2.2 - 1), g.2.1, g.2.2.1, g.2.2.2.2 (g.1.2.2.2.2 - 1), g.2.2.2.2)
theorem gBack_ok {n : Nat} {g : pPg} (hg : gOk n g) (hq : 0 < g.1.2.2.2.2) : gOk n (gBack g) := ⟨hg.1, hg.2.1, hg.2.2.1, hg.2.2.2.1, by have := hg.2.2.2.2.1; show g.1.2.2.2.2 - 1 ≤ 8; omega, hg.2.2.2.2.2.1, hg.2.2.2.2.2.2.2 _ (by omega), fun j hj => by have hj' : j < g.1.2.2.2.2 - 1 := hj; exact hg.2.2.2.2.2.2.2 j (by omega)⟩
theorem v_back {n : Nat} {g : pPg} {σ : ss_M} (hL : LAY σ) (hg : gOk n g) (h : cPg σ 0 g) (hq : 0 < g.1.2.2.2.2) : ∃ σ', f_X4_goBack 0 σ = some σ' ∧ eC σ σ' ∧ cPg σ' 0 (gBack g) := by
  have h0 := hL 0 (by decide)
  have h8 := hg.2.2.2.2.1
  have hb := h0.1 (g.1.2.2.2.2 - 1) (by omega)
  have e1 : nI g.1.2.2.2.2 - 1 = nI (g.1.2.2.2.2 - 1) := nIs (b := 1) (by omega)
  have eg : sG (sGu σ 7 0 (nI (g.1.2.2.2.2 - 1))) 7 0 = nI (g.1.2.2.2.2 - 1) := by rw [sG_G, if_pos ⟨rfl, rfl⟩]
  have hE0 : eC σ (sGu σ 7 0 (nI (g.1.2.2.2.2 - 1))) := eC_s hL (Or.inl rfl) (by omega)
  obtain ⟨σ2, e2, hE, hM⟩ := v_copy (o := 0) (o0 := sR σ 0 (g.1.2.2.2.2 - 1)) (sGu σ 7 0 (nI (g.1.2.2.2.2 - 1)))
  have hsame : ∀ k w m, cMk σ w k m → cMk (sGu σ 7 0 (nI (g.1.2.2.2.2 - 1))) w k m := fun k w m q => q
  refine ⟨σ2, ?_, hE0.tr (hE.eC hE0.1 (Or.inl rfl)), ?_⟩
  · unfold f_X4_goBack
    rw [h.1.2.2.2.2, if_neg (rnle 0 0 hq (by omega)), e1, eg, if_pos (gd_nI (by omega) (by decide)), nI_clamp (by omega), sR_G, if_pos (by omega), e2]
    rfl
  · refine ⟨⟨?_, ?_, ?_, ?_, ?_⟩, fun i hi => ?_, fun i hi => ?_, ?_, fun j hj => ?_⟩
    · rw [hE.1 3 0 (by omega)]; exact h.1.1
    · rw [hE.1 4 0 (by omega)]; exact h.1.2.1
    · rw [hE.1 5 0 (by omega)]; exact h.1.2.2.1
    · rw [hE.1 6 0 (by omega)]; exact h.1.2.2.2.1
    · rw [hE.1 7 0 (by omega)]; exact eg
    · rw [hE.2.1 4 0 (by omega)]; exact h.2.1 i hi
    · rw [hE.2.1 5 0 (by omega)]; exact h.2.2.1 i hi
    · exact hM _ _ hg.2.2.1 (by omega) (hsame _ _ _ (h.2.2.2.2 _ (by omega)))
    · have hj' : j < g.1.2.2.2.2 - 1 := hj
      have hbj := h0.1 j (by omega)
      rw [hE.2.2.2.2, sR_G]
      exact hE.mk (by omega) (hsame _ _ _ (h.2.2.2.2 j (by omega)))
