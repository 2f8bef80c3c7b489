/-! put, bought, sold, weeks, undone, the text -/
theorem gZ_ok {n : Nat} {g : pPg} (hg : gOk n g) : gOk n ((g.1.1, g.1.2.1, g.1.2.2.1, g.1.2.2.2.1, 0), g.2) := ⟨hg.1, hg.2.1, hg.2.2.1, hg.2.2.2.1, (show 0 ≤ 8 by decide), hg.2.2.2.2.2.1, hg.2.2.2.2.2.2.1, fun i hi => absurd hi (Nat.not_lt_zero _)⟩
theorem gZ_c {p : Nat} {g : pPg} {σ : ss_M} (h : cPg σ p g) : cPg (sGu σ 7 p 0) p ((g.1.1, g.1.2.1, g.1.2.2.1, g.1.2.2.2.1, 0), g.2) := ⟨⟨by rw [sG_n _ _ (by omega)]; exact h.1.1, by rw [sG_n _ _ (by omega)]; exact h.1.2.1, by rw [sG_n _ _ (by omega)]; exact h.1.2.2.1, by rw [sG_n _ _ (by omega)]; exact h.1.2.2.2.1, sG_m _ _ _ _⟩, h.2.1, h.2.2.1, ⟨by rw [sG_n _ _ (by omega)]; exact h.2.2.2.1.1, by rw [sG_n _ _ (by omega)]; exact h.2.2.2.1.2.1, h.2.2.2.1.2.2⟩, fun i hi => absurd hi (Nat.not_lt_zero _)⟩
theorem gZ_m {g : pPg} {τ : ss_M} (h : mPg τ g) : mPg (sGu τ 27 0 0) ((g.1.1, g.1.2.1, g.1.2.2.1, g.1.2.2.2.1, 0), g.2) := ⟨⟨h.1.1, h.1.2.1, h.1.2.2.1, h.1.2.2.2.1, sG_m _ _ _ _⟩, h.2.1, h.2.2.1, h.2.2.2.1, fun i hi => absurd hi (Nat.not_lt_zero _)⟩
theorem v_setMark {p i : Nat} {k : Int32} {σ : ss_M} (hi : i < 12) : f_X4_setMark p (nI i) k σ = some (sGu (sAu (sAu σ 0 p (upd (sA σ 0 p) i k)) 1 p (upd (sA σ 1 p) i 0)) 7 p 0) := by
  unfold f_X4_setMark
  rw [v_set hi]
  rfl
theorem sim_put {n : Nat} {σ τ : ss_M} (H : Cpl n σ τ) (p0 p1 : Int32) : simI n (f_X7_put p0 p1 σ) (f_X8_put p0 p1 τ) := by
  obtain ⟨g, hg, hc, hm⟩ := H.2.1
  have e5 : sG σ 5 0 = nI g.1.2.2.1 := hc.1.2.2.1
  have m5 : sG τ 17 0 = nI g.1.2.2.1 := hm.1.2.2.1
  have h12 := hg.2.2.1
  by_cases h : isP p0 g.1.2.2.1
  · by_cases h2 : 0 ≤ p1 ∧ p1 ≤ 5
    · obtain ⟨i, hi, rfl⟩ := isP_nI h12 h
      have hi12 : i < 12 := by omega
      obtain ⟨k1, k2⟩ := kOk_of h2
      simp only [f_X7_put, f_X8_put, v_has1 e5 h, w_pc1 m5 h12 h, v_one1 h2, w_kd1 h2, ss_bd_e, n10, if_false, gd_nI hi12 (show 12 < 2 ^ 31 by decide), if_true, v_setMark hi12, w_mark hi12, Option.bind_some, nI_clamp (show i < 2 ^ 31 by omega)]
      refine ⟨_, _, _, rfl, by rw [hc.2.2.2.1.2.2.1 i hi, hm.2.2.2.1.2.2.1 i hi], ?_⟩
      exact H.pg (eC_2 ((v_set_E 0 i p1 σ).eC H.1 (Or.inl rfl)) (by omega)) ((eM_mark τ i p1).tr (eM_s (by decide))) ⟨_, gZ_ok (gSet_ok (i := i) hg.up k1), gZ_c (gSet_c (by decide) H.1 hg hc), gZ_m (gSet_m hm)⟩
    · simp only [f_X7_put, f_X8_put, f_X7_put_j18, f_X8_put_j15, v_has1 e5 h, w_pc1 m5 h12 h, v_one0 h2, w_kd0 h2, ss_bd_e, n10, if_false, if_true, v_bad, w_ten]
      exact ⟨_, _, _, rfl, rfl, R_bad H⟩
  · simp only [f_X7_put, f_X8_put, f_X7_put_j18, f_X8_put_j15, v_has0 e5 h, w_pc0 m5 h12 h, ss_bd_e, if_true, v_bad, w_ten]
    exact ⟨_, _, _, rfl, rfl, R_bad H⟩
theorem v_costOf {p : Nat} {g : pPg} {σ : ss_M} {k : Int32} {n : Nat} (hn : n ≤ 1000) (hg : gOk n g) (h : cPg σ p g) : f_X4_costOf p k σ = some (nI (spCost k g.1.2.1 g.2.2.2.1.2.1), σ) := by
  unfold f_X4_costOf
  rw [h.1.2.1, h.2.2.2.1.2.1, v_cost (by have := hg.2.2.2.2.2.2.1.2.1; omega)]
  rfl
theorem w_costOf {g : pPg} {τ : ss_M} {k : Int32} {n : Nat} (hn : n ≤ 1000) (hg : gOk n g) (h : mPg τ g) (hk : kOk k) (h1 : k ≠ -1) : f_X8_costOf k τ = some (nI (spCost k g.1.2.1 g.2.2.2.1.2.1), τ) :=
  w_cost (by have := hg.2.2.2.2.2.2.1.2.1; omega) hk h1 h.1.2.1 h.2.2.2.1.2.1
theorem spCost_le (k : Int32) {P K : Nat} (h : P ≤ 9) : spCost k P K ≤ 57 := by
  unfold spCost
  have : K % 4 < 4 := Nat.mod_lt _ (by decide)
  split
  · omega
  split
  · omega
  split
  · split <;> omega
  split
  · omega
  split
  · omega
  split <;> omega
/-- the purse changes -/
def gPu (g : pPg) (u : Nat) : pPg := (g.1, g.2.1, g.2.2.1, (u, g.2.2.2.1.2), g.2.2.2.2)
theorem gPu_ok {n u : Nat} {g : pPg} (hg : gOk n g) (h : u ≤ 999) : gOk n (gPu g u) := ⟨hg.1, hg.2.1, hg.2.2.1, hg.2.2.2.1, hg.2.2.2.2.1, hg.2.2.2.2.2.1, ⟨h, hg.2.2.2.2.2.2.1.2⟩, hg.2.2.2.2.2.2.2⟩
theorem gPu_c {n u : Nat} {g : pPg} {σ : ss_M} (hL : LAY σ) (hg : gOk n g) (h : cPg σ 0 g) : cPg (sGu σ 0 0 (nI u)) 0 (gPu g u) := by
  refine ⟨h.1, h.2.1, h.2.2.1, ⟨sG_m _ _ _ _, h.2.2.2.1.2⟩, fun j hj => ?_⟩
  have hj' : j < g.1.2.2.2.2 := hj
  have hq := hg.2.2.2.2.1
  have hb := (hL 0 (by decide)).1 j (by omega)
  exact (h.2.2.2.2 j hj).same ⟨sG_n _ _ (by show ¬ (0 = 0 ∧ sR σ 0 j = 0); omega), rfl, rfl, rfl⟩
theorem gPu_m {u : Nat} {g : pPg} {τ : ss_M} (h : mPg τ g) : mPg (sGu τ 20 0 (nI u)) (gPu g u) := ⟨h.1, h.2.1, h.2.2.1, ⟨sG_m _ _ _ _, h.2.2.2.1.2⟩, h.2.2.2.2⟩
/-- the week changes -/
def gWk (g : pPg) (u : Nat) : pPg := (g.1, g.2.1, g.2.2.1, (g.2.2.2.1.1, u, g.2.2.2.1.2.2), g.2.2.2.2)
theorem gWk_ok {n u : Nat} {g : pPg} (hg : gOk n g) (h : u ≤ 20 * n) : gOk n (gWk g u) := ⟨hg.1, hg.2.1, hg.2.2.1, hg.2.2.2.1, hg.2.2.2.2.1, hg.2.2.2.2.2.1, ⟨hg.2.2.2.2.2.2.1.1, h, hg.2.2.2.2.2.2.1.2.2⟩, hg.2.2.2.2.2.2.2⟩
theorem gWk_c {n u : Nat} {g : pPg} {σ : ss_M} (hL : LAY σ) (hg : gOk n g) (h : cPg σ 0 g) : cPg (sGu σ 1 0 (nI u)) 0 (gWk g u) := by
  refine ⟨h.1, h.2.1, h.2.2.1, ⟨h.2.2.2.1.1, sG_m _ _ _ _, h.2.2.2.1.2.2⟩, fun j hj => ?_⟩
  have hj' : j < g.1.2.2.2.2 := hj
  have hq := hg.2.2.2.2.1
  have hb := (hL 0 (by decide)).1 j (by omega)
  exact (h.2.2.2.2 j hj).same ⟨rfl, sG_n _ _ (by show ¬ (1 = 1 ∧ sR σ 0 j = 0); omega), rfl, rfl⟩
theorem gWk_m {u : Nat} {g : pPg} {τ : ss_M} (h : mPg τ g) : mPg (sGu τ 21 0 (nI u)) (gWk g u) := ⟨h.1, h.2.1, h.2.2.1, ⟨h.2.2.2.1.1, sG_m _ _ _ _, h.2.2.2.1.2.2⟩, h.2.2.2.2⟩
theorem gRem_f (g : pPg) : (gRem g).1.2.2.1 = g.1.2.2.1 ∧ (gRem g).2.2.2.1 = g.2.2.2.1 ∧ (gRem g).2.1 = g.2.1 ∧ (gRem g).1.1 = g.1.1 ∧ (gRem g).1.2.1 = g.1.2.1 := by
  unfold gRem
  by_cases h : g.1.2.2.2.2 = 8
  · rw [if_pos h]; exact ⟨rfl, rfl, rfl, rfl, rfl⟩
  · rw [if_neg h]; exact ⟨rfl, rfl, rfl, rfl, rfl⟩
theorem sim_buy {n : Nat} {σ τ : ss_M} (hn : n ≤ 1000) (H : Cpl n σ τ) (p0 p1 : Int32) : simI n (f_X7_buy p0 p1 σ) (f_X8_buy p0 p1 τ) := by
  obtain ⟨g, hg, hc, hm⟩ := H.2.1
  have e5 : sG σ 5 0 = nI g.1.2.2.1 := hc.1.2.2.1
  have m5 : sG τ 17 0 = nI g.1.2.2.1 := hm.1.2.2.1
  have h12 := hg.2.2.1
  by_cases h : isP p0 g.1.2.2.1
  · by_cases h2 : 0 ≤ p1 ∧ p1 ≤ 5
    · obtain ⟨i, hi, rfl⟩ := isP_nI h12 h
      have hi12 : i < 12 := by omega
      obtain ⟨k1, k2⟩ := kOk_of h2
      have ki := hc.2.2.2.1.2.2.1 i hi
      have mi := hm.2.2.2.1.2.2.1 i hi
      have pu := hc.2.2.2.1.1
      have mu := hm.2.2.2.1.1
      have hP := hg.2.1.2
      have hcl := spCost_le p1 (P := g.1.2.1) (K := g.2.2.2.1.2.1) hP
      have hU := hg.2.2.2.2.2.2.1.1
      simp only [f_X7_buy, f_X8_buy, f_X7_buy_j64, f_X8_buy_j44, v_has1 e5 h, w_pc1 m5 h12 h, v_one1 h2, w_kd1 h2, ss_bd_e, n10, if_false, gd_nI hi12 (show 12 < 2 ^ 31 by decide), if_true, v_costOf hn hg hc, w_costOf hn hg hm k1 k2, nI_clamp (show i < 2 ^ 31 by omega), ki, mi, pu, mu, v_no, w_no]
      by_cases c1 : g.2.2.2.1.2.2.1 i = -1
      · by_cases c2 : nI (spCost p1 g.1.2.1 g.2.2.2.1.2.1) ≤ nI g.2.2.2.1.1
        · rw [if_pos c1, if_pos c2, if_pos c1, if_pos c2]
          have c3 := (nI_leI (by omega) (by omega)).mp c2
          obtain ⟨σ1, a1, a2, a3⟩ := v_rem H.1 hg hc
          obtain ⟨τ1, b1, b2, b3⟩ := w_rem hg hm
          have hgr := gRem_ok hg
          obtain ⟨r1, r2, r3, r4, r5⟩ := gRem_f g
          rw [a1, b1]
          simp only [Option.bind_some, v_set hi12, w_mark hi12]
          have u1 : sG (sAu (sAu σ1 0 0 (upd (sA σ1 0 0) i p1)) 1 0 (upd (sA σ1 1 0) i 0)) 0 0 = nI g.2.2.2.1.1 := by rw [sG_A, sG_A, a3.2.2.2.1.1, r2]
          have u2 : sG (sAu (sAu τ1 18 0 (upd (sA τ1 18 0) i p1)) 19 0 (upd (sA τ1 19 0) i 0)) 20 0 = nI g.2.2.2.1.1 := by rw [sG_A, sG_A, b3.2.2.2.1.1, r2]
          rw [u1, u2, nIs c3]
          refine ⟨_, _, _, rfl, rfl, ?_⟩
          have L2 : LAY (sAu (sAu σ1 0 0 (upd (sA σ1 0 0) i p1)) 1 0 (upd (sA σ1 1 0) i 0)) := a2.1
          refine H.pg (eC_2 (a2.tr ((v_set_E 0 i p1 σ1).eC a2.1 (Or.inl rfl))) (by omega)) ((b2.tr (eM_mark τ1 i p1)).tr (eM_s (by decide))) ⟨gPu (gSet (gRem g) i p1) (g.2.2.2.1.1 - spCost p1 g.1.2.1 g.2.2.2.1.2.1), gPu_ok (gSet_ok hgr.up k1) (by omega), gPu_c L2 (gSet_ok hgr k1) (gSet_c (by decide) a2.1 hgr a3), gPu_m (gSet_m b3)⟩
        · rw [if_pos c1, if_neg c2, if_pos c1, if_neg c2]
          exact ⟨_, _, _, rfl, rfl, R_no H⟩
      · rw [if_neg c1, if_neg c1]
        exact ⟨_, _, _, rfl, rfl, R_no H⟩
    · simp only [f_X7_buy, f_X8_buy, f_X7_buy_j18, f_X8_buy_j15, v_has1 e5 h, w_pc1 m5 h12 h, v_one0 h2, w_kd0 h2, ss_bd_e, n10, if_false, if_true, v_bad, w_bad]
      exact ⟨_, _, _, rfl, rfl, R_bad H⟩
  · simp only [f_X7_buy, f_X8_buy, f_X7_buy_j18, f_X8_buy_j15, v_has0 e5 h, w_pc0 m5 h12 h, ss_bd_e, if_true, v_bad, w_bad]
    exact ⟨_, _, _, rfl, rfl, R_bad H⟩
theorem sim_sell {n : Nat} {σ τ : ss_M} (hn : n ≤ 1000) (H : Cpl n σ τ) (p0 : Int32) : simI n (f_X7_sell p0 σ) (f_X8_sell p0 τ) := by
  obtain ⟨g, hg, hc, hm⟩ := H.2.1
  have e5 : sG σ 5 0 = nI g.1.2.2.1 := hc.1.2.2.1
  have m5 : sG τ 17 0 = nI g.1.2.2.1 := hm.1.2.2.1
  have h12 := hg.2.2.1
  by_cases h : isP p0 g.1.2.2.1
  · obtain ⟨i, hi, rfl⟩ := isP_nI h12 h
    have hi12 : i < 12 := by omega
    have ki := hc.2.2.2.1.2.2.1 i hi
    have mi := hm.2.2.2.1.2.2.1 i hi
    simp only [f_X7_sell, f_X8_sell, v_has1 e5 h, w_pc1 m5 h12 h, ss_bd_e, n10, if_false, gd_nI hi12 (show 12 < 2 ^ 31 by decide), if_true, v_costOf hn hg hc, nI_clamp (show i < 2 ^ 31 by omega), ki, mi, v_no, w_no]
    by_cases c1 : g.2.2.2.1.2.2.1 i = -1
    · rw [if_pos c1, if_pos c1]
      exact ⟨_, _, _, rfl, rfl, R_no H⟩
    · rw [if_neg c1, if_neg c1]
      obtain ⟨σ1, a1, a2, a3⟩ := v_rem H.1 hg hc
      obtain ⟨τ1, b1, b2, b3⟩ := w_rem hg hm
      have hgr := gRem_ok hg
      obtain ⟨r1, r2, r3, r4, r5⟩ := gRem_f g
      have kk : kOk (g.2.2.2.1.2.2.1 i) := hg.2.2.2.2.2.2.1.2.2 i hi
      have t18 : sA τ1 18 0 i = g.2.2.2.1.2.2.1 i := by rw [b3.2.2.2.1.2.2.1 i (by rw [r1]; exact hi), r2]
      have hcl := spCost_le (g.2.2.2.1.2.2.1 i) (P := g.1.2.1) (K := g.2.2.2.1.2.1) hg.2.1.2
      have hU := hg.2.2.2.2.2.2.1.1
      have cst : f_X8_costOf (g.2.2.2.1.2.2.1 i) τ1 = some (nI (spCost (g.2.2.2.1.2.2.1 i) g.1.2.1 g.2.2.2.1.2.1), τ1) := by
        have := w_costOf hn hgr b3 kk c1
        rw [r5, r2] at this
        exact this
      rw [a1, b1]
      simp only [Option.bind_some, v_set hi12, w_mark hi12, t18, cst, ss_bd_e]
      have u1 : sG (sAu (sAu σ1 0 0 (upd (sA σ1 0 0) i (-1))) 1 0 (upd (sA σ1 1 0) i 0)) 0 0 = nI g.2.2.2.1.1 := by rw [sG_A, sG_A, a3.2.2.2.1.1, r2]
      have u2 : sG (sAu (sAu τ1 18 0 (upd (sA τ1 18 0) i (-1))) 19 0 (upd (sA τ1 19 0) i 0)) 20 0 = nI g.2.2.2.1.1 := by rw [sG_A, sG_A, b3.2.2.2.1.1, r2]
      have e999 : (999 : Int32) = nI 999 := rfl
      rw [u1, u2, nId2 (by omega), nI_add, e999, nI_min (by omega) (by omega), w_less (by omega) (by omega)]
      simp only [ss_bd_e]
      refine ⟨_, _, _, rfl, rfl, ?_⟩
      have L2 : LAY (sAu (sAu σ1 0 0 (upd (sA σ1 0 0) i (-1))) 1 0 (upd (sA σ1 1 0) i 0)) := a2.1
      exact H.pg (eC_2 (a2.tr ((v_set_E 0 i (-1) σ1).eC a2.1 (Or.inl rfl))) (by omega)) ((b2.tr (eM_mark τ1 i (-1))).tr (eM_s (by decide))) ⟨gPu (gSet (gRem g) i (-1)) _, gPu_ok (gSet_ok hgr.up (Or.inl rfl)) (by omega), gPu_c L2 (gSet_ok hgr (Or.inl rfl)) (gSet_c (by decide) a2.1 hgr a3), gPu_m (gSet_m b3)⟩
  · simp only [f_X7_sell, f_X8_sell, v_has0 e5 h, w_pc0 m5 h12 h, ss_bd_e, if_true, v_bad, w_bad]
    exact ⟨_, _, _, rfl, rfl, R_bad H⟩
theorem sim_week {n : Nat} {σ τ : ss_M} (hn : n ≤ 1000) (H : Cpl n σ τ) (p0 : Int32) : simI n (f_X7_week p0 σ) (f_X8_week p0 τ) := by
  by_cases h : 1 ≤ p0 ∧ p0 ≤ 20
  · obtain ⟨g, hg, hc, hm⟩ := H.2.1
    obtain ⟨k, k1, k2, rfl⟩ := i_mid (a := 1) (b := 20) (by omega) h.1 h.2 (by omega)
    obtain ⟨σ1, a1, a2, a3⟩ := v_rem H.1 hg hc
    obtain ⟨τ1, b1, b2, b3⟩ := w_rem hg hm
    have hgr := gRem_ok hg
    obtain ⟨r1, r2, r3, r4, r5⟩ := gRem_f g
    have hK := hgr.2.2.2.2.2.2.1.2.1
    simp only [f_X7_week, f_X8_week, v_in1 h, w_in1 h, ss_bd_e, n10, if_false, a1, b1, Option.bind_some, a3.2.2.2.1.2.1, b3.2.2.2.1.2.1, nI_add, sG_m]
    refine ⟨_, _, _, rfl, rfl, ?_⟩
    exact H.pg (eC_2 a2 (by omega)) (b2.tr (eM_s (by decide))) ⟨gWk (gRem g) _, gWk_ok hgr.up (by omega), gWk_c a2.1 hgr a3, gWk_m b3⟩
  · simp only [f_X7_week, f_X8_week, v_in0 h, w_in0 h, ss_bd_e, if_true, v_bad, w_bad]
    exact ⟨_, _, _, rfl, rfl, R_bad H⟩
theorem sim_undo {n : Nat} {σ τ : ss_M} (H : Cpl n σ τ) : simI n (f_X7_undo σ) (f_X8_undo τ) := by
  obtain ⟨g, hg, hc, hm⟩ := H.2.1
  have e7 := hc.1.2.2.2.2
  have m7 := hm.1.2.2.2.2
  by_cases h : g.1.2.2.2.2 = 0
  · have z1 : sG σ 7 0 = 0 := by rw [e7, h]; rfl
    have z2 : sG τ 27 0 = 0 := by rw [m7, h]; rfl
    simp only [f_X7_undo, f_X8_undo, z1, z2, if_true, v_no, w_no, ss_bd_e]
    exact ⟨_, _, _, rfl, rfl, R_no H⟩
  · have h8 := hg.2.2.2.2.1
    obtain ⟨σ1, a1, a2, a3⟩ := v_back H.1 hg hc (by omega)
    obtain ⟨τ1, b1, b2, b3⟩ := w_back hg hm (by omega)
    rw [b1]
    unfold f_X7_undo
    rw [e7, if_neg (nI_ne0 (by omega) (by omega)), a1]
    refine ⟨_, σ1, τ1, ?_, rfl, H.pg a2 b2 ⟨gBack g, gBack_ok hg.up (by omega), a3, b3⟩⟩
    show some (sG σ1 0 0, σ1) = _
    rw [a3.2.2.2.1.1]
    rfl
theorem Cpl.tx {n : Nat} {σ σ' τ τ' : ss_M} (h : Cpl n σ τ) (e1 : ∀ f o, f ≠ 8 → sG σ' f o = sG σ f o) (e2 : ∀ c o, c ≠ 11 → sA σ' c o = sA σ c o) (e3 : sL σ' = sL σ) (e4 : sR σ' = sR σ) (f1 : ∀ f o, f ≠ 23 → sG τ' f o = sG τ f o) (f2 : ∀ c o, c ≠ 21 → sA τ' c o = sA τ c o) (f3 : sL τ' = sL τ) (ht : cTx σ' τ') : Cpl (n + 1) σ' τ' := by
  obtain ⟨hL, ⟨g, h1, h2, h3⟩, -, c, ⟨d1, d2, d3⟩, i0, i1⟩ := h
  have hp : ∀ p, pgE p σ σ' := fun p => ⟨fun f _ _ => e1 f p (by omega), e2 4 p (by omega), e2 5 p (by omega), by rw [e4], fun k _ => ⟨e1 0 k (by omega), e1 1 k (by omega), e2 0 k (by omega), e2 1 k (by omega)⟩⟩
  have hm : mgE τ τ' := ⟨⟨f1 _ _ (by decide), f1 _ _ (by decide), f1 _ _ (by decide), f1 _ _ (by decide), f1 _ _ (by decide), f1 _ _ (by decide), f1 _ _ (by decide)⟩, f2 _ _ (by decide), f2 _ _ (by decide), f2 _ _ (by decide), f2 _ _ (by decide), f2 _ _ (by decide)⟩
  have im : ∀ k, k < 2 → cImg n σ τ k → cImg (n + 1) σ' τ' k := by
    intro k hk h
    rcases h with ⟨q1, q2⟩ | ⟨q1, g, q2, q3, q4⟩
    · exact Or.inl ⟨by rw [e2 101 0 (by decide)]; exact q1, by rw [f2 31 0 (by decide)]; exact q2⟩
    · refine Or.inr ⟨by rw [e2 101 0 (by decide)]; exact q1, g, q2.up, q3.same hL (by omega) q2 (hp _), ?_⟩
      unfold iPg
      rw [f2 31 0 (by decide)]
      exact q4
  exact ⟨by unfold LAY; rw [e4]; exact hL, ⟨g, h1.up, h2.same hL (by decide) h1 (hp 0), h3.same hm⟩, ht, ⟨by rw [e3, f3]; exact c.1, by rw [e3, f3]; exact c.2⟩, ⟨by rw [e1 14 0 (by decide), f2 16 0 (by decide)]; exact d1, by rw [e1 15 0 (by decide), f2 16 0 (by decide)]; exact d2, by rw [e1 16 0 (by decide), f2 16 0 (by decide)]; exact d3⟩, im 0 (by decide) i0, im 1 (by decide) i1⟩
theorem sim_clear {n : Nat} {σ τ : ss_M} (H : Cpl n σ τ) : simI n (f_X7_clear σ) (f_X8_clear τ) := by
  obtain ⟨T, t1, t2, t3, t4⟩ := H.2.2.1
  refine ⟨_, _, _, rfl, by unfold f_X8_clear; rw [t2, t3], ?_⟩
  exact H.tx (fun f o h => sG_n _ _ (by omega)) (fun _ _ _ => rfl) rfl rfl (fun f o h => sG_n _ _ (by omega)) (fun _ _ _ => rfl) rfl ⟨0, by decide, sG_m _ _ _ _, sG_m _ _ _ _, fun i hi => absurd hi (Nat.not_lt_zero _)⟩
theorem sim_type {n : Nat} {σ τ : ss_M} (H : Cpl n σ τ) (p0 : Int32) : simI n (f_X7_type p0 σ) (f_X8_type p0 τ) := by
  by_cases h : 0 ≤ p0 ∧ p0 ≤ 127
  · obtain ⟨T, t1, t2, t3, t4⟩ := H.2.2.1
    by_cases hT : T = 150
    · have z1 : ¬ sG σ 8 0 < 150 := by rw [t2, hT]; decide
      have z2 : sG τ 23 0 = 150 := by rw [t3, hT]; rfl
      simp only [f_X7_type, f_X8_type, v_in1 h, w_in1 h, ss_bd_e, n10, if_false, z1, z2, if_true, v_full, w_full]
      exact ⟨_, _, _, rfl, rfl, R_full H⟩
    · have z1 : nI T < 150 := nI_lt (b := 150) (by omega) (by decide)
      have z2 : ¬ nI T = 150 := fun q => hT ((nI_eq (b := 150) (by omega) (by decide)).mp q)
      simp only [f_X7_type, f_X8_type, f_X6_add, v_in1 h, w_in1 h, ss_bd_e, n10, if_false, t2, t3, z1, z2, if_true, gd_nI (show T < 150 by omega) (show 150 < 2 ^ 31 by decide), nI_clamp (show T < 2 ^ 31 by omega), ss_let, Option.bind_some, sG_A, nIa1, sG_m]
      refine ⟨_, _, _, rfl, rfl, ?_⟩
      refine H.tx (fun f o h => sG_n _ _ (by omega)) (fun c o h => sA_n _ _ (by omega)) rfl rfl (fun f o h => sG_n _ _ (by omega)) (fun c o h => sA_n _ _ (by omega)) rfl ⟨T + 1, by omega, sG_m _ _ _ _, sG_m _ _ _ _, fun i hi => ?_⟩
      rw [sA_G, sA_G, sA_m, sA_m]
      unfold upd
      by_cases e : i = T
      · rw [if_pos e, if_pos e]
      · rw [if_neg e, if_neg e]; exact t4 i (by omega)
  · simp only [f_X7_type, f_X8_type, v_in0 h, w_in0 h, ss_bd_e, if_true, v_bad, w_bad]
    exact ⟨_, _, _, rfl, rfl, R_bad H⟩
