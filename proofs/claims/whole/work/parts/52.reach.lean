/-! reach -/
def rel (x y : Int32) : Prop := (∃ v, v ≤ 2000 ∧ x = nI v ∧ y = nI v) ∨ (x = nI 1000000 ∧ y = nI 1048576)
theorem rel_min {x y : Int32} {v : Nat} (h : rel x y) (hv : v ≤ 2000) : rel (if nI v < x then nI v else x) (if nI v ≤ y then nI v else y) := by
  rcases h with ⟨u, hu, rfl, rfl⟩ | ⟨rfl, rfl⟩
  · left
    by_cases q : v < u
    · exact ⟨v, hv, by rw [if_pos (nI_lt q (by omega))], by rw [if_pos (nI_le (by omega) (by omega))]⟩
    · by_cases e : v = u
      · subst e
        exact ⟨v, hv, by split <;> rfl, by split <;> rfl⟩
      · exact ⟨u, hu, by rw [if_neg (nI_nlt (by omega) (by omega))], by rw [if_neg (lit_nle (by omega) (by omega) (by omega))]⟩
  · left
    exact ⟨v, hv, by rw [if_pos (nI_lt (by omega) (by omega))], by rw [if_pos (nI_le (by omega) (by omega))]⟩
def ox (j : Nat) : Int32 := if j = 0 then -1 else nI (j - 1)
theorem ox_0 : ox 0 = -1 := rfl
theorem ox_s (j : Nat) : ox (j + 1) = nI j := by
  unfold ox
  rw [if_neg (by omega)]
  rfl
theorem ox_1 (j : Nat) : ox j + 1 = ox (j + 1) := by
  rw [ox_s]
  cases j with
  | zero => rfl
  | succ j => rw [ox_s, nIa1]
def iRe (g : pPg) (σ τ : ss_M) : Prop := LAY σ ∧ cPg σ 0 g ∧ mPg τ g ∧ (∀ c, c ≤ 30 → rel (sA σ 9 0 c) (sA τ 26 0 c)) ∧ ∀ c, c ≤ 30 → rel (sA σ 10 0 c) (sA τ 27 0 c)
theorem w_les (a b : Int32) (τ : ss_M) : f_X8_lesser a b τ = some (if b ≤ a then b else a, τ) := by
  unfold f_X8_lesser
  split <;> rfl
theorem iRe_u {n : Nat} {g : pPg} {σ τ : ss_M} {G : Nat} {x y : Int32} (hg : gOk n g) (h : iRe g σ τ) (hxy : rel x y) : iRe g (sAu σ 10 0 (upd (sA σ 10 0) G x)) (sAu τ 27 0 (upd (sA τ 27 0) G y)) := by
  obtain ⟨hL, hc, hm, h1, h2⟩ := h
  refine ⟨LAY_a hL, hc.same hL (by decide) hg (pgE_a (by omega) (by omega)), hm.same (QM_a (by omega)).2, fun c hc' => ?_, fun c hc' => ?_⟩
  · rw [sA_n _ _ (by omega), sA_n _ _ (by omega)]; exact h1 c hc'
  · rw [sA_m, sA_m]
    by_cases e : c = G
    · rw [e, upd_m, upd_m]; exact hxy
    · rw [upd_n e, upd_n e]; exact h2 c hc'
theorem v_j47 {n0 i c v : Nat} {g : pPg} {σ : ss_M} {x kd : Int32} (kb : Int32 → ss_M → Option ss_M) (hn : n0 ≤ 1000) (hg : gOk n0 g) (hc : cPg σ 0 g) (hi : i < g.1.2.2.1) (hl : g.2.1 i ≤ c) (hcB : c ≤ g.1.1) (hv : sA σ 9 0 c = nI v) : f_X5_spread_j47 0 (nI i) (nI c) x kb kd σ = kb (x + 1) (sAu σ 10 0 (upd (sA σ 10 0) (spGive kd (c - g.2.1 i) g.1.1) (if nI (v + spCost x g.1.2.1 g.2.2.2.1.2.1) < sA σ 10 0 (spGive kd (c - g.2.1 i) g.1.1) then nI (v + spCost x g.1.2.1 g.2.2.2.1.2.1) else sA σ 10 0 (spGive kd (c - g.2.1 i) g.1.1)))) := by
  have h12 := hg.2.2.1
  have hB := hg.1.2
  have hG : spGive kd (c - g.2.1 i) g.1.1 ≤ g.1.1 := spGive_le (by omega)
  have e31 : gd (nI (spGive kd (c - g.2.1 i) g.1.1)) 31 = true := gd_nI (by omega) (by decide)
  unfold f_X5_spread_j47
  rw [if_pos (gd_nI (show i < 12 by omega) (by decide)), nI_clamp (show i < 2 ^ 31 by omega), hc.2.1 i hi, hc.1.1, nIs hl, v_give (by omega) (by omega), ss_bd_e, if_pos e31, if_pos (gd_nI (show c < 31 by omega) (by decide)), v_costOf hn hg hc, ss_bd_e, if_pos e31, nI_clamp (show c < 2 ^ 31 by omega), nI_clamp (show spGive kd (c - g.2.1 i) g.1.1 < 2 ^ 31 by omega), hv, nI_add, ss_let]
theorem w_j151 {n0 i c v : Nat} {g : pPg} {τ : ss_M} {j : Nat} {kd : Int32} (kb : Int32 → ss_M → Option (Int32 × ss_M)) (hn : n0 ≤ 1000) (hg : gOk n0 g) (hm : mPg τ g) (hi : i < g.1.2.2.1) (hl : g.2.1 i ≤ c) (hcB : c ≤ g.1.1) (hk : kOk kd) (hj : j ≤ 6) (hv : sA τ 26 0 c = nI v) : f_X8_reach_j151 (nI i) (nI c) (ox j) kb kd τ = kb (ox j + 1) (sAu τ 27 0 (upd (sA τ 27 0) (spGive kd (c - g.2.1 i) g.1.1) (if nI (v + spCost (ox j) g.1.2.1 g.2.2.2.1.2.1) ≤ sA τ 27 0 (spGive kd (c - g.2.1 i) g.1.1) then nI (v + spCost (ox j) g.1.2.1 g.2.2.2.1.2.1) else sA τ 27 0 (spGive kd (c - g.2.1 i) g.1.1)))) := by
  have h12 := hg.2.2.1
  have hB := hg.1.2
  have hG : spGive kd (c - g.2.1 i) g.1.1 ≤ g.1.1 := spGive_le (by omega)
  have e31 : gd (nI (spGive kd (c - g.2.1 i) g.1.1)) 31 = true := gd_nI (by omega) (by decide)
  unfold f_X8_reach_j151
  rw [if_pos (gd_nI (show i < 12 by omega) (by decide)), nI_clamp (show i < 2 ^ 31 by omega), hm.2.1 i hi, hm.1.1, nIs hl, w_give hk (by omega) (by omega), ss_bd_e, if_pos e31, if_pos (gd_nI (show c < 31 by omega) (by decide))]
  unfold f_X8_reach_j205
  rw [nI_clamp (show c < 2 ^ 31 by omega), nI_clamp (show spGive kd (c - g.2.1 i) g.1.1 < 2 ^ 31 by omega), hv]
  cases j with
  | zero =>
    rw [ox_0, if_pos rfl, Int32.add_zero, w_les, ss_bd_e, if_pos e31]
    rfl
  | succ j =>
    have ho : kOk (nI j) ∧ nI j ≠ -1 := kOk_of ⟨nI_pos' (by omega), rle 5 5 (by omega)⟩
    rw [ox_s, if_neg ho.2, w_costOf hn hg hm ho.1 ho.2, ss_bd_e, nI_add, w_les, ss_bd_e, if_pos e31]
theorem sp_L {n0 i c v : Nat} {g : pPg} (k : Int32 → ss_M → Option (Int32 × ss_M)) (hn : n0 ≤ 1000) (hg : gOk n0 g) (hi : i < g.1.2.2.1) (hl : g.2.1 i ≤ c) (hcB : c ≤ g.1.1) (hvb : v ≤ 999) (N : Nat) (hN : N = if g.2.2.2.1.2.2.1 i = -1 then 7 else 1) : ∀ m j : Nat, j + m = N → ∀ (σ τ : ss_M) (n1 n2 : Nat), iRe g σ τ → sA σ 9 0 c = nI v → sA τ 26 0 c = nI v → m < n1 → m < n2 → ∃ σ' τ', f_X5_spread_L27 0 (nI i) (nI c) (g.2.2.2.1.2.2.1 i) (if g.2.2.2.1.2.2.1 i = -1 then 5 else -1) n1 (ox j) σ = some σ' ∧ f_X8_reach_L120 (nI i) (nI c) k n2 (ox j) τ = k 1 τ' ∧ iRe g σ' τ' ∧ QC σ σ' ∧ QM τ τ' := by
  have h12 := hg.2.2.1
  have hB := hg.1.2
  have hk : kOk (g.2.2.2.1.2.2.1 i) := hg.2.2.2.2.2.2.1.2.2 i hi
  have e12 : gd (nI i) 12 = true := gd_nI (by omega) (by decide)
  have ei : (nI i).toNatClampNeg = i := nI_clamp (by omega)
  have hN7 : N ≤ 7 := by rw [hN]; split <;> omega
  intro m
  induction m with
  | zero =>
    intro j hj σ τ n1 n2 I hv hw h1 h2
    obtain ⟨n1', rfl⟩ : ∃ n', n1 = n' + 1 := ⟨n1 - 1, by omega⟩
    obtain ⟨n2', rfl⟩ : ∃ n', n2 = n' + 1 := ⟨n2 - 1, by omega⟩
    have hjN : j = N := by omega
    refine ⟨σ, τ, ?_, ?_, I, QC.rf I.1, QM.rf⟩
    · rw [f_X5_spread_L27, if_pos]
      by_cases z : g.2.2.2.1.2.2.1 i = -1
      · rw [if_pos z, hjN, hN, if_pos z]; decide
      · rw [if_neg z, hjN, hN, if_neg z]; decide
    · rw [f_X8_reach_L120]
      unfold f_X8_optionsAt
      rw [if_pos e12, ei, I.2.2.1.2.2.2.1.2.2.1 i hi]
      by_cases z : g.2.2.2.1.2.2.1 i = -1
      · rw [if_pos z, ss_bd_e, if_pos (by rw [hjN, hN, if_pos z]; decide)]
      · rw [if_neg z, ss_bd_e, if_pos (by rw [hjN, hN, if_neg z]; decide)]
  | succ m ih =>
    intro j hj σ τ n1 n2 I hv hw h1 h2
    obtain ⟨n1', rfl⟩ : ∃ n', n1 = n' + 1 := ⟨n1 - 1, by omega⟩
    obtain ⟨n2', rfl⟩ : ∃ n', n2 = n' + 1 := ⟨n2 - 1, by omega⟩
    have hj6 : j ≤ 6 := by omega
    have hct := spCost_le (ox j) (P := g.1.2.1) (K := g.2.2.2.1.2.1) hg.2.1.2
    obtain ⟨kd, hkd⟩ : ∃ kd, kd = if g.2.2.2.1.2.2.1 i = -1 then ox j else g.2.2.2.1.2.2.1 i := ⟨_, rfl⟩
    have hkk : kOk kd := by
      rw [hkd]
      split
      · cases j with
        | zero => exact Or.inl rfl
        | succ j => rw [ox_s]; exact (kOk_of ⟨nI_pos' (by omega), rle 5 5 (by omega)⟩).1
      · exact hk
    have hG : spGive kd (c - g.2.1 i) g.1.1 ≤ g.1.1 := spGive_le (by omega)
    obtain ⟨σ', τ', d1, d2, d3, d4, d5⟩ := ih (j + 1) (by omega) _ _ n1' n2' (iRe_u (G := spGive kd (c - g.2.1 i) g.1.1) hg I (rel_min (v := v + spCost (ox j) g.1.2.1 g.2.2.2.1.2.1) (I.2.2.2.2 (spGive kd (c - g.2.1 i) g.1.1) (by omega)) (by omega))) (by rw [sA_n _ _ (by omega)]; exact hv) (by rw [sA_n _ _ (by omega)]; exact hw) (by omega) (by omega)
    refine ⟨σ', τ', ?_, ?_, d3, (QC_a I.1 (by omega)).tr d4, (QM_a (by omega)).tr d5⟩
    · have b : ¬ (if g.2.2.2.1.2.2.1 i = -1 then (5 : Int32) else -1) < ox j := by
        by_cases z : g.2.2.2.1.2.2.1 i = -1
        · rw [if_pos z]
          cases j with
          | zero => decide
          | succ j => rw [ox_s]; exact nI_nlt (b := j) (a := 5) (by omega) (by decide)
        · have : j = 0 := by rw [if_neg z] at hN; omega
          rw [if_neg z, this]; decide
      rw [f_X5_spread_L27, if_neg b, v_j47 _ hn hg I.2.1 hi hl hcB hv, v_j47 _ hn hg I.2.1 hi hl hcB hv, ox_1]
      have kk : (if ox j = -1 then g.2.2.2.1.2.2.1 i else ox j) = kd := by
        rw [hkd]
        by_cases z : g.2.2.2.1.2.2.1 i = -1
        · rw [if_pos z, z]
          split
          · next q => exact q.symm
          · rfl
        · have : j = 0 := by rw [if_neg z] at hN; omega
          rw [if_neg z, this]
          exact if_pos ox_0
      by_cases q : ox j = -1
      · rw [if_pos q] at kk ⊢
        rw [← kk] at d1
        exact d1
      · rw [if_neg q] at kk ⊢
        rw [← kk] at d1
        exact d1
    · rw [f_X8_reach_L120]
      unfold f_X8_optionsAt
      rw [if_pos e12, ei, I.2.2.1.2.2.2.1.2.2.1 i hi]
      by_cases z : g.2.2.2.1.2.2.1 i = -1
      · have b : ¬ (6 : Int32) ≤ ox j := by
          cases j with
          | zero => decide
          | succ j => rw [ox_s]; exact lnle 6 6 (by omega)
        have kk : kd = ox j := by rw [hkd, if_pos z]
        rw [if_pos z, ss_bd_e, if_neg b, if_pos e12, I.2.2.1.2.2.2.1.2.2.1 i hi, if_pos z]
        rw [kk] at d2 hkk
        rw [w_j151 _ hn hg I.2.2.1 hi hl hcB hkk hj6 hw, ox_1]
        exact d2
      · have j0 : j = 0 := by rw [if_neg z] at hN; omega
        have b : ¬ (0 : Int32) ≤ ox j := by rw [j0]; decide
        have kk : kd = g.2.2.2.1.2.2.1 i := by rw [hkd, if_neg z]
        rw [if_neg z, ss_bd_e, if_neg b, if_pos e12, I.2.2.1.2.2.2.1.2.2.1 i hi, if_neg z, if_pos e12, ← kk, w_j151 _ hn hg I.2.2.1 hi hl hcB hkk hj6 hw, ox_1]
        exact d2
