/-! reading out -/
def gR (g : pPg) (i : Nat) : pPg := (g.1, g.2.1, g.2.2.1, (g.2.2.2.1.1, g.2.2.2.1.2.1, g.2.2.2.1.2.2.1, upd g.2.2.2.1.2.2.2 i (g.2.2.2.1.2.2.2 i + 1)), g.2.2.2.2)
theorem gR_ok {n i : Nat} {g : pPg} (h : gOk n g) : gOk n (gR g i) := h
theorem gR_c {n i : Nat} {g : pPg} {σ : ss_M} (hi : i < g.1.2.2.1) (hL : LAY σ) (hg : gOk n g) (h : cPg σ 0 g) : cPg (sAu σ 1 0 (upd (sA σ 1 0) i (sA σ 1 0 i + 1))) 0 (gR g i) := by
  refine ⟨h.1, fun j hj => ?_, fun j hj => ?_, ⟨h.2.2.2.1.1, h.2.2.2.1.2.1, fun j hj => ?_, fun j hj => ?_⟩, fun j hj => ?_⟩
  · rw [sA_n _ _ (by omega)]; exact h.2.1 j hj
  · rw [sA_n _ _ (by omega)]; exact h.2.2.1 j hj
  · rw [sA_n _ _ (by omega)]; exact h.2.2.2.1.2.2.1 j hj
  · rw [sA_m, h.2.2.2.1.2.2.2 i hi]; exact upd_c (h.2.2.2.1.2.2.2 j hj)
  · have hj' : j < g.1.2.2.2.2 := hj
    have hq := hg.2.2.2.2.1
    have hb := (hL 0 (by decide)).1 j (by omega)
    exact (h.2.2.2.2 j hj).same ⟨rfl, rfl, sA_n _ _ (by show ¬ (0 = 1 ∧ sR σ 0 j = 0); omega), sA_n _ _ (by show ¬ (1 = 1 ∧ sR σ 0 j = 0); omega)⟩
theorem gR_m {i : Nat} {g : pPg} {τ : ss_M} (hi : i < g.1.2.2.1) (h : mPg τ g) : mPg (sAu τ 19 0 (upd (sA τ 19 0) i (sA τ 19 0 i + 1))) (gR g i) := by
  refine ⟨h.1, h.2.1, h.2.2.1, ⟨h.2.2.2.1.1, h.2.2.2.1.2.1, h.2.2.2.1.2.2.1, fun j hj => ?_⟩, h.2.2.2.2⟩
  rw [sA_m, h.2.2.2.1.2.2.2 i hi]
  exact upd_c (h.2.2.2.1.2.2.2 j hj)
theorem upd_m (f : Nat → Int32) (i : Nat) (x : Int32) : upd f i x i = x := by unfold upd; rw [if_pos rfl]
theorem rd_L {n0 w B : Nat} (hB : B ≤ 30) : ∀ m i h : Nat, i + m = w → h ≤ B → ∀ (σ τ : ss_M) (g : pPg), LAY σ → gOk n0 g → cPg σ 0 g → mPg τ g → g.1.2.2.1 = w → g.1.1 = B → ∀ n1 n2, m < n1 → m < n2 → ∃ r σ' τ' g', f_X4_say_L7 0 (f_X4_say_j53 0) n1 (nI h) (nI i) σ = some (r, σ') ∧ f_X8_readOut_L11 n2 (nI h) (nI i) τ = some (r, τ') ∧ eC σ σ' ∧ eM τ τ' ∧ gOk n0 g' ∧ cPg σ' 0 g' ∧ mPg τ' g' := by
  intro m
  induction m with
  | zero =>
    intro i h hi hh σ τ g hL hg hc hm hw hb n1 n2 h1 h2
    obtain ⟨n1', rfl⟩ : ∃ n', n1 = n' + 1 := ⟨n1 - 1, by omega⟩
    obtain ⟨n2', rfl⟩ : ∃ n', n2 = n' + 1 := ⟨n2 - 1, by omega⟩
    have h12 := hg.2.2.1
    have : i = w := by omega
    subst this
    refine ⟨nI i, σ, τ, g, ?_, ?_, eC.rf hL, eM.rf, hg, hc, hm⟩
    · rw [f_X4_say_L7, hc.1.2.2.1, hw, if_pos (nI_le (by omega) (by omega))]
      unfold f_X4_say_j53
      rw [hc.1.2.2.1, hw]
    · rw [f_X8_readOut_L11, hm.1.2.2.1, hw, if_pos (nI_le (by omega) (by omega))]
  | succ m ih =>
    intro i h hi hh σ τ g hL hg hc hm hw hb n1 n2 h1 h2
    obtain ⟨n1', rfl⟩ : ∃ n', n1 = n' + 1 := ⟨n1 - 1, by omega⟩
    obtain ⟨n2', rfl⟩ : ∃ n', n2 = n' + 1 := ⟨n2 - 1, by omega⟩
    have h12 := hg.2.2.1
    have hiw : i < g.1.2.2.1 := by omega
    have l9 := (hg.2.2.2.2.2.1 i hiw).2
    have e12 : gd (nI i) 12 = true := gd_nI (by omega) (by decide)
    have hk : kOk (g.2.2.2.1.2.2.1 i) := hg.2.2.2.2.2.2.1.2.2 i hiw
    have c0 := hc.2.2.2.1.2.2.1 i hiw
    have m0 := hm.2.2.2.1.2.2.1 i hiw
    have c1 := hc.2.2.2.1.2.2.2 i hiw
    have m1 := hm.2.2.2.1.2.2.2 i hiw
    have hx : (nI i).toNatClampNeg = i := nI_clamp (by omega)
    rw [f_X4_say_L7, f_X8_readOut_L11, hc.1.2.2.1, hm.1.2.2.1, if_neg (lit_nle (by omega) (by omega) (by omega)), if_neg (lit_nle (by omega) (by omega) (by omega)), if_pos e12, if_pos e12, hx, hc.2.1 i hiw, hm.2.1 i hiw, hc.1.1, hm.1.1, v_left (by omega) (by omega) (by omega) (by omega), ss_bd_e]
    by_cases q : g.2.1 i ≤ h
    · have hgl : spGive (g.2.2.2.1.2.2.1 i) (h - g.2.1 i) g.1.1 ≤ B := by rw [hb]; exact spGive_le (by omega)
      rw [if_pos q, if_neg (nm1 (by rw [c0]; omega)), if_neg (show ¬ nI h < nI (g.2.1 i) from nI_nlt q (by omega)), if_pos e12, if_pos e12, nIs q, m0, c0, w_give hk (by omega) (by omega), ss_bd_e]
      unfold f_X8_readOut_j87 f_X2_readOnce
      rw [nIa1, if_pos e12, hx, c0]
      by_cases z : g.2.2.2.1.2.2.1 i = -1
      · rw [if_pos z, if_pos z, Option.bind_some]
        exact ih (i + 1) _ (by omega) hgl σ τ g hL hg hc hm hw hb n1' n2' (by omega) (by omega)
      · have g1 := gR_c hiw hL hg hc
        have g2 := gR_m hiw hm
        rw [if_neg z, if_neg z, if_pos e12, if_pos e12, if_pos e12, if_pos e12, if_pos e12, if_pos e12, v_lasts hk, w_dries hk, ss_bd_e, ss_bd_e, sA_m, sA_m, upd_m, upd_m, c1, m1]
        rw [c1] at g1
        rw [m1] at g2
        have f1 : eC σ (sAu σ 1 0 (upd (sA σ 1 0) i (g.2.2.2.1.2.2.2 i + 1))) := eC_a hL (by omega) (by omega)
        have f2 : eM τ (sAu τ 19 0 (upd (sA τ 19 0) i (g.2.2.2.1.2.2.2 i + 1))) := eM_a (by omega)
        by_cases y : g.2.2.2.1.2.2.2 i + 1 = spLast (g.2.2.2.1.2.2.1 i)
        · rw [if_pos y, if_pos y, v_set (by omega), w_mark (by omega), Option.bind_some, Option.bind_some, Option.bind_some]
          obtain ⟨r, σ', τ', g', b1, b2, b3, b4, b5⟩ := ih (i + 1) _ (by omega) hgl _ _ (gSet (gR g i) i (-1)) (LAY_a (LAY_a (LAY_a hL))) (gSet_ok (gR_ok hg) (Or.inl rfl)) (gSet_c (by decide) (LAY_a hL) (gR_ok hg) g1) (gSet_m g2) hw hb n1' n2' (by omega) (by omega)
          exact ⟨r, σ', τ', g', b1, b2, (f1.tr ((v_set_E 0 i (-1) _).eC (LAY_a hL) (Or.inl rfl))).tr b3, (f2.tr (eM_mark _ i (-1))).tr b4, b5⟩
        · rw [if_neg y, if_neg y, Option.bind_some]
          obtain ⟨r, σ', τ', g', b1, b2, b3, b4, b5⟩ := ih (i + 1) _ (by omega) hgl _ _ (gR g i) (LAY_a hL) (gR_ok hg) g1 g2 hw hb n1' n2' (by omega) (by omega)
          exact ⟨r, σ', τ', g', b1, b2, f1.tr b3, f2.tr b4, b5⟩
    · rw [if_neg q, if_pos rfl, if_pos (show nI h < nI (g.2.1 i) from nI_lt (by omega) (by omega))]
      exact ⟨nI i, σ, τ, g, rfl, rfl, eC.rf hL, eM.rf, hg, hc, hm⟩
theorem sim_readOut {n : Nat} {σ τ : ss_M} (H : Cpl n σ τ) : simI n (f_X7_readOut σ) (f_X8_readOut τ) := by
  obtain ⟨g, hg, hc, hm⟩ := H.2.1
  obtain ⟨σ1, a1, a2, a3⟩ := v_rem H.1 hg hc
  obtain ⟨τ1, b1, b2, b3⟩ := w_rem hg hm
  have ho := gRem_ok hg
  have hw := ho.2.2.1
  have hB := ho.1.2
  obtain ⟨r, σ', τ', g', d1, d2, d3, d4, d5, d6, d7⟩ := rd_L hB (gRem g).1.2.2.1 0 (gRem g).1.1 (Nat.zero_add _) (Nat.le_refl _) σ1 τ1 (gRem g) a2.1 ho a3 b3 rfl rfl FU FU (FU_gt (by omega)) (FU_gt (by omega))
  have e1 : f_X4_say 0 σ1 = some (r, σ') := by
    unfold f_X4_say
    rw [a3.1.1]
    exact d1
  have e2 : f_X8_readOut τ = some (r, τ') := by
    unfold f_X8_readOut
    rw [b1, Option.bind_some, b3.1.1]
    exact d2
  unfold f_X7_readOut
  rw [a1, Option.bind_some, e1, ss_bd_e, e2]
  exact ⟨r, σ', τ', rfl, rfl, H.pg (a2.tr d3) (b2.tr d4) ⟨g', d5.up, d6, d7⟩⟩
