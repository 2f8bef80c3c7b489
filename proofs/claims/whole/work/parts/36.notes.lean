/-! the reference: noted, brought back -/
def shf (r : Nat → Int32) (i : Nat) : Nat → Int32 := fun j => if j < i then r (j + 26) else r j
theorem shf_0 (r : Nat → Int32) : shf r 0 = r := by
  funext j
  unfold shf
  rw [if_neg (by omega)]
theorem shf_s (r : Nat → Int32) (i : Nat) : upd (shf r i) i (shf r i (i + 26)) = shf r (i + 1) := by
  funext j
  unfold upd shf
  by_cases h1 : j = i
  · rw [if_pos h1, if_neg (by omega), if_pos (by omega), h1]
  · rw [if_neg h1]
    by_cases h2 : j < i
    · rw [if_pos h2, if_pos (by omega)]
    · rw [if_neg h2, if_neg (by omega)]
theorem notes_L11 (k : ss_M → Option ss_M) (τ : ss_M) (r : Nat → Int32) : ∀ m i : Nat, i + m = 182 → ∀ n, m < n → f_X8_notes_L11 k n (nI i) (sAu τ 23 0 (shf r i)) = k (sAu τ 23 0 (shf r 182)) := by
  intro m
  induction m with
  | zero =>
    intro i hi n hn
    obtain ⟨n', rfl⟩ : ∃ n', n = n' + 1 := ⟨n - 1, by omega⟩
    have : i = 182 := by omega
    subst this
    rw [f_X8_notes_L11, if_pos (lle 182 182 (i := 182) (by decide) (by decide))]
  | succ m ih =>
    intro i hi n hn
    obtain ⟨n', rfl⟩ : ∃ n', n = n' + 1 := ⟨n - 1, by omega⟩
    have e1 : nI i + 26 = nI (i + 26) := nI_add i 26
    rw [f_X8_notes_L11, if_neg (lnle 182 182 (i := i) (by omega)), e1, if_pos (gd_nI (by omega) (by decide)), if_pos (gd_nI (by omega) (by decide)), sA_m, nI_clamp (by omega), nI_clamp (by omega), nIa1, sA_2, shf_s]
    exact ih (i + 1) (by omega) n' (by omega)
def nts (r kin rea : Nat → Int32) (at_ i : Nat) : Nat → Int32 := fun j => if at_ + 2 ≤ j ∧ j < at_ + 2 + i then kin (j - (at_ + 2)) else if at_ + 14 ≤ j ∧ j < at_ + 14 + i then rea (j - (at_ + 14)) else r j
theorem nts_0 (r kin rea : Nat → Int32) (a : Nat) : nts r kin rea a 0 = r := by
  funext j
  unfold nts
  rw [if_neg (by omega), if_neg (by omega)]
theorem nts_s (r kin rea : Nat → Int32) (a i : Nat) (hi : i < 12) : upd (upd (nts r kin rea a i) (a + 2 + i) (kin i)) (a + 14 + i) (rea i) = nts r kin rea a (i + 1) := by
  funext j
  unfold upd nts
  by_cases h1 : j = a + 14 + i
  · rw [if_pos h1, if_neg (by omega), if_pos (by omega), h1]
    congr 1; omega
  · rw [if_neg h1]
    by_cases h2 : j = a + 2 + i
    · rw [if_pos h2, if_pos (by omega), h2]
      congr 1; omega
    · rw [if_neg h2]
      by_cases h3 : a + 2 ≤ j ∧ j < a + 2 + i
      · rw [if_pos h3, if_pos (by omega)]
      · rw [if_neg h3, if_neg (show ¬ (a + 2 ≤ j ∧ j < a + 2 + (i + 1)) by omega)]
        by_cases h4 : a + 14 ≤ j ∧ j < a + 14 + i
        · rw [if_pos h4, if_pos (show a + 14 ≤ j ∧ j < a + 14 + (i + 1) by omega)]
        · rw [if_neg h4, if_neg (show ¬ (a + 14 ≤ j ∧ j < a + 14 + (i + 1)) by omega)]
theorem notes_L81 (k : ss_M → Option ss_M) (τ : ss_M) (r : Nat → Int32) (a : Nat) (ha : a ≤ 182) : ∀ m i : Nat, i + m = 12 → ∀ n, m < n → f_X8_notes_L81 k n (nI a) (nI i) (sAu τ 23 0 (nts r (sA τ 18 0) (sA τ 19 0) a i)) = k (sAu τ 23 0 (nts r (sA τ 18 0) (sA τ 19 0) a 12)) := by
  intro m
  induction m with
  | zero =>
    intro i hi n hn
    obtain ⟨n', rfl⟩ : ∃ n', n = n' + 1 := ⟨n - 1, by omega⟩
    have : i = 12 := by omega
    subst this
    rw [f_X8_notes_L81, if_pos (lle 12 12 (i := 12) (by decide) (by decide))]
  | succ m ih =>
    intro i hi n hn
    obtain ⟨n', rfl⟩ : ∃ n', n = n' + 1 := ⟨n - 1, by omega⟩
    have e1 : nI a + 2 + nI i = nI (a + 2 + i) := by rw [show nI a + 2 = nI (a + 2) from nI_add a 2, nI_add]
    have e2 : nI a + 14 + nI i = nI (a + 14 + i) := by rw [show nI a + 14 = nI (a + 14) from nI_add a 14, nI_add]
    rw [f_X8_notes_L81, if_neg (lnle 12 12 (i := i) (by omega)), e1, e2, if_pos (gd_nI (by omega) (by decide)), if_pos (gd_nI (by omega) (by decide)), if_pos (gd_nI (by omega) (by decide)), if_pos (gd_nI (by omega) (by decide)), nI_clamp (by omega), nI_clamp (by omega), nI_clamp (by omega), nIa1, ss_let, sA_2, sA_2, sA_m, sA_m]
    have q1 : ∀ Z v, sA (sAu Z 23 0 v) 18 0 = sA Z 18 0 := fun Z v => by rw [sA_A, if_neg (by decide)]
    have q2 : ∀ Z v, sA (sAu Z 23 0 v) 19 0 = sA Z 19 0 := fun Z v => by rw [sA_A, if_neg (by decide)]
    rw [q2, q2, q1, nts_s _ _ _ _ _ (by omega)]
    exact ih (i + 1) (by omega) n' (by omega)
theorem w_push {n : Nat} {g : pPg} {τ : ss_M} (hg : gOk n g) (h : mPg τ g) (hq : g.1.2.2.2.2 < 8) : ∃ τ', f_X8_notes_j49 τ = some τ' ∧ eM τ τ' ∧ mPg τ' (gPush g) := by
  obtain ⟨r, hr⟩ : ∃ r, r = upd (upd (sA τ 23 0) (26 * g.1.2.2.2.2) (nI g.2.2.2.1.1)) (26 * g.1.2.2.2.2 + 1) (nI g.2.2.2.1.2.1) := ⟨_, rfl⟩
  have e26 : (26 : Int32) * nI g.1.2.2.2.2 = nI (26 * g.1.2.2.2.2) := pk_mul 26 _
  have hl := notes_L81 f_X8_notes_j126 τ r (26 * g.1.2.2.2.2) (by omega) 12 0 rfl FU (FU_gt (by decide))
  rw [nts_0] at hl
  have hw := hg.2.2.1
  refine ⟨sGu (sAu τ 23 0 (nts r (sA τ 18 0) (sA τ 19 0) (26 * g.1.2.2.2.2) 12)) 27 0 (nI (g.1.2.2.2.2 + 1)), ?_, (eM_a (by decide)).tr (eM_s (by decide)), ?_⟩
  · unfold f_X8_notes_j49
    rw [h.1.2.2.2.2, e26, nIa1, if_pos (gd_nI (by omega) (by decide)), if_pos (gd_nI (by omega) (by decide)), nI_clamp (by omega), nI_clamp (by omega), ss_let, sA_2, sA_m, sG_A, h.2.2.2.1.1, h.2.2.2.1.2.1, ← hr]
    refine Eq.trans hl ?_
    unfold f_X8_notes_j126
    rw [sG_A, h.1.2.2.2.2, nIa1]
  · have out : ∀ j x, j < g.1.2.2.2.2 → x < 26 * j + 26 → nts r (sA τ 18 0) (sA τ 19 0) (26 * g.1.2.2.2.2) 12 x = sA τ 23 0 x := by
      intro j x hj hx
      unfold nts
      rw [if_neg (by omega), if_neg (by omega), hr]
      unfold upd
      rw [if_neg (by omega), if_neg (by omega)]
    refine ⟨⟨h.1.1, h.1.2.1, h.1.2.2.1, h.1.2.2.2.1, ?_⟩, h.2.1, h.2.2.1, ⟨h.2.2.2.1.1, h.2.2.2.1.2.1, h.2.2.2.1.2.2.1, h.2.2.2.1.2.2.2⟩, fun j hj => ?_⟩
    · rw [sG_G, if_pos ⟨rfl, rfl⟩]; rfl
    · have hj' : j < g.1.2.2.2.2 + 1 := hj
      show nMk (sA (sGu (sAu τ 23 0 (nts r (sA τ 18 0) (sA τ 19 0) (26 * g.1.2.2.2.2) 12)) 27 0 (nI (g.1.2.2.2.2 + 1))) 23 0) (26 * j) g.1.2.2.1 (if j = g.1.2.2.2.2 then g.2.2.2.1 else g.2.2.2.2 j)
      rw [sA_G, sA_m]
      by_cases e : j = g.1.2.2.2.2
      · rw [if_pos e, e]
        refine ⟨?_, ?_, fun i hi => ?_, fun i hi => ?_⟩
        · unfold nts
          rw [if_neg (by omega), if_neg (by omega), hr]
          unfold upd
          rw [if_neg (by omega), if_pos rfl]
        · unfold nts
          rw [if_neg (by omega), if_neg (by omega), hr]
          unfold upd
          rw [if_pos rfl]
        · unfold nts
          rw [if_pos (by omega), ← h.2.2.2.1.2.2.1 i hi]
          congr 1; omega
        · unfold nts
          rw [if_neg (by omega), if_pos (by omega), ← h.2.2.2.1.2.2.2 i hi]
          congr 1; omega
      · rw [if_neg e]
        have hj2 : j < g.1.2.2.2.2 := by omega
        have := h.2.2.2.2 j hj2
        refine ⟨?_, ?_, fun i hi => ?_, fun i hi => ?_⟩
        · rw [out j _ hj2 (by omega)]; exact this.1
        · rw [out j _ hj2 (by omega)]; exact this.2.1
        · rw [out j _ hj2 (by omega)]; exact this.2.2.1 i hi
        · rw [out j _ hj2 (by omega)]; exact this.2.2.2 i hi
theorem w_rem {n : Nat} {g : pPg} {τ : ss_M} (hg : gOk n g) (h : mPg τ g) : ∃ τ', f_X8_notes τ = some τ' ∧ eM τ τ' ∧ mPg τ' (gRem g) := by
  unfold f_X8_notes gRem
  by_cases hq : g.1.2.2.2.2 = 8
  · rw [if_pos (by rw [h.1.2.2.2.2, hq]; rfl), if_pos hq]
    have hl := notes_L11 f_X8_notes_j39 τ (sA τ 23 0) 182 0 rfl FU (FU_gt (by decide))
    rw [shf_0, ex_sA] at hl
    have hm : mPg (sGu (sAu τ 23 0 (shf (sA τ 23 0) 182)) 27 0 (nI 7)) (gDrop g) := by
      refine ⟨⟨h.1.1, h.1.2.1, h.1.2.2.1, h.1.2.2.2.1, ?_⟩, h.2.1, h.2.2.1, ⟨h.2.2.2.1.1, h.2.2.2.1.2.1, h.2.2.2.1.2.2.1, h.2.2.2.1.2.2.2⟩, fun j hj => ?_⟩
      · rw [sG_G, if_pos ⟨rfl, rfl⟩]; rfl
      · have hj7 : j < 7 := hj
        have hw := hg.2.2.1
        have hn := h.2.2.2.2 (j + 1) (by omega)
        have sh : ∀ x, x < 26 * j + 26 → shf (sA τ 23 0) 182 x = sA τ 23 0 (x + 26) := fun x hx => by unfold shf; rw [if_pos (by omega)]
        show nMk (sA (sGu (sAu τ 23 0 (shf (sA τ 23 0) 182)) 27 0 (nI 7)) 23 0) (26 * j) g.1.2.2.1 (g.2.2.2.2 (j + 1))
        rw [sA_G, sA_m]
        refine ⟨?_, ?_, fun i hi => ?_, fun i hi => ?_⟩
        · rw [sh _ (by omega), ← hn.1]; congr 1
        · rw [sh _ (by omega), ← hn.2.1]; congr 1
        · have hi' : i < g.1.2.2.1 := hi
          rw [sh _ (by omega), ← hn.2.2.1 i hi, show 26 * j + 2 + i + 26 = 26 * (j + 1) + 2 + i by omega]
        · have hi' : i < g.1.2.2.1 := hi
          rw [sh _ (by omega), ← hn.2.2.2 i hi, show 26 * j + 14 + i + 26 = 26 * (j + 1) + 14 + i by omega]
    have hok : gOk n (gDrop g) := ⟨hg.1, hg.2.1, hg.2.2.1, hg.2.2.2.1, by show 7 ≤ 8; decide, hg.2.2.2.2.2.1, hg.2.2.2.2.2.2.1, fun j hj => by have hj7 : j < 7 := hj; exact hg.2.2.2.2.2.2.2 (j + 1) (by omega)⟩
    obtain ⟨τ2, e2, hE2, h2⟩ := w_push hok hm (by show 7 < 8; decide)
    refine ⟨τ2, ?_, ((eM_a (by decide)).tr (eM_s (by decide))).tr hE2, h2⟩
    refine Eq.trans hl ?_
    unfold f_X8_notes_j39
    rw [sG_A, h.1.2.2.2.2, hq]
    exact e2
  · have h8 := hg.2.2.2.2.1
    rw [if_neg (by rw [h.1.2.2.2.2]; exact fun q => hq ((nI_eq (b := 8) (by omega) (by decide)).mp q)), if_neg hq]
    exact w_push hg h (by omega)
def bks (r s : Nat → Int32) (b i : Nat) : Nat → Int32 := fun j => if j < i then s (b + j) else r j
theorem bks_0 (r s : Nat → Int32) (b : Nat) : bks r s b 0 = r := by
  funext j
  unfold bks
  rw [if_neg (by omega)]
theorem bks_s (r s : Nat → Int32) (b i : Nat) : upd (bks r s b i) i (s (b + i)) = bks r s b (i + 1) := by
  funext j
  unfold upd bks
  by_cases h1 : j = i
  · rw [if_pos h1, if_pos (by omega), h1]
  · rw [if_neg h1]
    by_cases h2 : j < i
    · rw [if_pos h2, if_pos (by omega)]
    · rw [if_neg h2, if_neg (by omega)]
theorem undo_L54 (k : ss_M → Option (Int32 × ss_M)) (τ : ss_M) (r1 r2 : Nat → Int32) (a : Nat) (ha : a ≤ 182) : ∀ m i : Nat, i + m = 12 → ∀ n, m < n → f_X8_undo_L54 k n (nI a) (nI i) (sAu (sAu τ 18 0 (bks r1 (sA τ 23 0) (a + 2) i)) 19 0 (bks r2 (sA τ 23 0) (a + 14) i)) = k (sAu (sAu τ 18 0 (bks r1 (sA τ 23 0) (a + 2) 12)) 19 0 (bks r2 (sA τ 23 0) (a + 14) 12)) := by
  intro m
  induction m with
  | zero =>
    intro i hi n hn
    obtain ⟨n', rfl⟩ : ∃ n', n = n' + 1 := ⟨n - 1, by omega⟩
    have : i = 12 := by omega
    subst this
    rw [f_X8_undo_L54, if_pos (lle 12 12 (i := 12) (by decide) (by decide))]
  | succ m ih =>
    intro i hi n hn
    obtain ⟨n', rfl⟩ : ∃ n', n = n' + 1 := ⟨n - 1, by omega⟩
    have e1 : nI a + 2 + nI i = nI (a + 2 + i) := by rw [show nI a + 2 = nI (a + 2) from nI_add a 2, nI_add]
    have e2 : nI a + 14 + nI i = nI (a + 14 + i) := by rw [show nI a + 14 = nI (a + 14) from nI_add a 14, nI_add]
    obtain ⟨X, hX⟩ : ∃ X, X = sAu (sAu τ 18 0 (bks r1 (sA τ 23 0) (a + 2) i)) 19 0 (bks r2 (sA τ 23 0) (a + 14) i) := ⟨_, rfl⟩
    have x18 : sA X 18 0 = bks r1 (sA τ 23 0) (a + 2) i := by rw [hX, sA_A, if_neg (by decide), sA_m]
    have x19 : sA X 19 0 = bks r2 (sA τ 23 0) (a + 14) i := by rw [hX, sA_m]
    have x23 : sA X 23 0 = sA τ 23 0 := by rw [hX, sA_A, if_neg (by decide), sA_A, if_neg (by decide)]
    rw [← hX, f_X8_undo_L54, if_neg (lnle 12 12 (i := i) (by omega)), e1, e2, if_pos (gd_nI (by omega) (by decide)), if_pos (gd_nI (by omega) (by decide)), if_pos (gd_nI (by omega) (by decide)), if_pos (gd_nI (by omega) (by decide)), nI_clamp (by omega), nI_clamp (by omega), nI_clamp (by omega), nIa1, ss_let]
    have q1 : ∀ v, sA (sAu X 18 0 v) 19 0 = sA X 19 0 := fun v => by rw [sA_A, if_neg (by decide)]
    have q2 : ∀ v, sA (sAu X 18 0 v) 23 0 = sA X 23 0 := fun v => by rw [sA_A, if_neg (by decide)]
    rw [q1, q2, x18, x19, x23, bks_s, bks_s]
    have fin : sAu (sAu X 18 0 (bks r1 (sA τ 23 0) (a + 2) (i + 1))) 19 0 (bks r2 (sA τ 23 0) (a + 14) (i + 1)) = sAu (sAu τ 18 0 (bks r1 (sA τ 23 0) (a + 2) (i + 1))) 19 0 (bks r2 (sA τ 23 0) (a + 14) (i + 1)) := by
      rw [hX]
      obtain ⟨x, y, z, d, e⟩ := τ
      unfold sAu
      congr 2
      funext c' o'
      by_cases h1 : c' = 19 ∧ o' = 0
      · rw [if_pos h1, if_pos h1]
      · rw [if_neg h1, if_neg h1]
        by_cases h2 : c' = 18 ∧ o' = 0
        · simp [h2]
        · simp [h1, h2]
    rw [fin]
    exact ih (i + 1) (by omega) n' (by omega)
theorem w_back {n : Nat} {g : pPg} {τ : ss_M} (hg : gOk n g) (h : mPg τ g) (hq : 0 < g.1.2.2.2.2) : ∃ τ', f_X8_undo τ = some (nI (g.2.2.2.2 (g.1.2.2.2.2 - 1)).1, τ') ∧ eM τ τ' ∧ mPg τ' (gBack g) := by
  have h8 := hg.2.2.2.2.1
  have hw := hg.2.2.1
  have hb := h.2.2.2.2 (g.1.2.2.2.2 - 1) (by omega)
  have e1 : nI g.1.2.2.2.2 - 1 = nI (g.1.2.2.2.2 - 1) := nIs (b := 1) (by omega)
  have eg : sG (sGu τ 27 0 (nI (g.1.2.2.2.2 - 1))) 27 0 = nI (g.1.2.2.2.2 - 1) := by rw [sG_G, if_pos ⟨rfl, rfl⟩]
  have e26 : (26 : Int32) * nI (g.1.2.2.2.2 - 1) = nI (26 * (g.1.2.2.2.2 - 1)) := pk_mul 26 _
  obtain ⟨X, hX⟩ : ∃ X, X = sGu (sGu (sGu τ 27 0 (nI (g.1.2.2.2.2 - 1))) 20 0 (nI (g.2.2.2.2 (g.1.2.2.2.2 - 1)).1)) 21 0 (nI (g.2.2.2.2 (g.1.2.2.2.2 - 1)).2.1) := ⟨_, rfl⟩
  have x23 : sA X 23 0 = sA τ 23 0 := by rw [hX]; rfl
  have hl := undo_L54 f_X8_undo_j99 X (sA X 18 0) (sA X 19 0) (26 * (g.1.2.2.2.2 - 1)) (by omega) 12 0 rfl FU (FU_gt (by decide))
  rw [bks_0, bks_0, ex_sA, ex_sA] at hl
  have hEX : eM τ X := by rw [hX]; exact ((eM_s (by decide)).tr (eM_s (by decide))).tr (eM_s (by decide))
  refine ⟨sAu (sAu X 18 0 (bks (sA X 18 0) (sA X 23 0) (26 * (g.1.2.2.2.2 - 1) + 2) 12)) 19 0 (bks (sA X 19 0) (sA X 23 0) (26 * (g.1.2.2.2.2 - 1) + 14) 12), ?_, (hEX.tr (eM_a (by decide))).tr (eM_a (by decide)), ?_⟩
  · unfold f_X8_undo
    rw [h.1.2.2.2.2, if_neg (nI_ne0 hq (by omega)), e1, eg, e26, nIa1, if_pos (gd_nI (by omega) (by decide)), nI_clamp (by omega), nI_clamp (by omega), ss_let, if_pos (gd_nI (by omega) (by decide)), sA_G, sA_G, sA_G, hb.1, hb.2.1, ← hX]
    refine Eq.trans hl ?_
    unfold f_X8_undo_j99
    rw [sG_A, sG_A]
    have : sG X 20 0 = nI (g.2.2.2.2 (g.1.2.2.2.2 - 1)).1 := by rw [hX, sG_G, if_neg (by decide), sG_G, if_pos ⟨rfl, rfl⟩]
    rw [this]
  · rw [x23]
    have p18 : ∀ v1 v2, sA (sAu (sAu X 18 0 v1) 19 0 v2) 18 0 = v1 := fun v1 v2 => by rw [sA_A, if_neg (by decide), sA_m]
    have p19 : ∀ v1 v2, sA (sAu (sAu X 18 0 v1) 19 0 v2) 19 0 = v2 := fun v1 v2 => by rw [sA_m]
    have ph : ∀ v1 v2 c, c ≠ 18 → c ≠ 19 → sA (sAu (sAu X 18 0 v1) 19 0 v2) c 0 = sA τ c 0 := fun v1 v2 c h1 h2 => by rw [sA_A, if_neg (by omega), sA_A, if_neg (by omega), hX]; rfl
    have pg : ∀ v1 v2 f, f ≠ 20 → f ≠ 21 → f ≠ 27 → sG (sAu (sAu X 18 0 v1) 19 0 v2) f 0 = sG τ f 0 := fun v1 v2 f h1 h2 h3 => by rw [sG_A, sG_A, hX, sG_G, if_neg (by omega), sG_G, if_neg (by omega), sG_G, if_neg (by omega)]
    refine ⟨⟨(pg _ _ 18 (by decide) (by decide) (by decide)).trans h.1.1, (pg _ _ 19 (by decide) (by decide) (by decide)).trans h.1.2.1, (pg _ _ 17 (by decide) (by decide) (by decide)).trans h.1.2.2.1, (pg _ _ 22 (by decide) (by decide) (by decide)).trans h.1.2.2.2.1, ?_⟩, fun i hi => ?_, fun i hi => ?_, ⟨?_, ?_, fun i hi => ?_, fun i hi => ?_⟩, fun j hj => ?_⟩
    · rw [sG_A, sG_A, hX, sG_G, if_neg (by decide), sG_G, if_neg (by decide), sG_G, if_pos ⟨rfl, rfl⟩]; rfl
    · rw [ph _ _ 17 (by decide) (by decide)]; exact h.2.1 i hi
    · rw [ph _ _ 20 (by decide) (by decide)]; exact h.2.2.1 i hi
    · rw [sG_A, sG_A, hX, sG_G, if_neg (by decide), sG_G, if_pos ⟨rfl, rfl⟩]; rfl
    · rw [sG_A, sG_A, hX, sG_G, if_pos ⟨rfl, rfl⟩]; rfl
    · have hi' : i < g.1.2.2.1 := hi
      rw [p18]
      unfold bks
      rw [if_pos (by omega)]
      exact hb.2.2.1 i hi
    · have hi' : i < g.1.2.2.1 := hi
      rw [p19]
      unfold bks
      rw [if_pos (by omega)]
      exact hb.2.2.2 i hi
    · have hj' : j < g.1.2.2.2.2 - 1 := hj
      rw [ph _ _ 23 (by decide) (by decide)]
      exact h.2.2.2.2 j (by omega)
