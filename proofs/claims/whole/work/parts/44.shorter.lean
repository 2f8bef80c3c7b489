/-! shorter -/
def fll (r : Nat → Int32) (x : Int32) (i : Nat) : Nat → Int32 := fun j => if j < i then x else r j
theorem fll_0 (r : Nat → Int32) (x : Int32) : fll r x 0 = r := by
  funext j
  unfold fll
  rw [if_neg (by omega)]
theorem fll_s (r : Nat → Int32) (x : Int32) (i : Nat) : upd (fll r x i) i x = fll r x (i + 1) := by
  funext j
  unfold upd fll
  by_cases e : j = i
  · rw [if_pos e, if_pos (by omega)]
  · rw [if_neg e]
    by_cases q : j < i
    · rw [if_pos q, if_pos (by omega)]
    · rw [if_neg q, if_neg (by omega)]
theorem fill_L (kc ko : Nat) (x : Int32) (σ : ss_M) (r : Nat → Int32) (hl : alen kc ≤ 1000) : ∀ m i : Nat, i + m = alen kc → ∀ n, m < n → f_J7_fill_53178_L5 kc ko x n (nI i) (nI (alen kc)) (sAu σ kc ko (fll r x i)) = some (sAu σ kc ko (fll r x (alen kc))) := by
  intro m
  induction m with
  | zero =>
    intro i hi n hn
    obtain ⟨n', rfl⟩ : ∃ n', n = n' + 1 := ⟨n - 1, by omega⟩
    rw [f_J7_fill_53178_L5, if_pos (nI_le (by omega) (by omega)), show i = alen kc by omega]
  | succ m ih =>
    intro i hi n hn
    obtain ⟨n', rfl⟩ : ∃ n', n = n' + 1 := ⟨n - 1, by omega⟩
    rw [f_J7_fill_53178_L5, if_neg (lit_nle (by omega) (by omega) (by omega)), if_pos (gd_nI (by omega) (by omega)), nI_clamp (by omega), nIa1, sA_m, sA_2, fll_s]
    exact ih (i + 1) (by omega) n' (by omega)
theorem v_fill (kc ko : Nat) (x : Int32) (σ : ss_M) (hl : alen kc ≤ 1000) : f_J7_fill_53178 kc ko x σ = some (sAu σ kc ko (fll (sA σ kc ko) x (alen kc))) := by
  have e := fill_L kc ko x σ (sA σ kc ko) hl (alen kc) 0 (Nat.zero_add _) FU (FU_gt (by omega))
  rw [fll_0, ex_sA] at e
  exact e
theorem w_fill {w : Nat} (k : ss_M → Option (Int32 × ss_M)) (τ : ss_M) (r : Nat → Int32) (hw : w ≤ 12) (e5 : sG τ 17 0 = nI w) : ∀ m i : Nat, i + m = w + 1 → ∀ n, m < n → f_X8_alike_L5 k n (nI i) (sAu τ 30 0 (fll r 0 i)) = k (sAu τ 30 0 (fll r 0 (w + 1))) := by
  intro m
  induction m with
  | zero =>
    intro i hi n hn
    obtain ⟨n', rfl⟩ : ∃ n', n = n' + 1 := ⟨n - 1, by omega⟩
    rw [f_X8_alike_L5, sG_A, e5, if_pos (nI_lt (by omega) (by omega)), show i = w + 1 by omega]
  | succ m ih =>
    intro i hi n hn
    obtain ⟨n', rfl⟩ : ∃ n', n = n' + 1 := ⟨n - 1, by omega⟩
    rw [f_X8_alike_L5, sG_A, e5, if_neg (nI_nlt (by omega) (by omega)), if_pos (gd_nI (by omega) (by decide)), nI_clamp (by omega), nIa1, sA_m, sA_2, fll_s]
    exact ih (i + 1) (by omega) n' (by omega)
def fSl (w t : Nat) : Nat := if t = w then 12 else t
theorem al_L {n0 : Nat} {g : pPg} {σ τ : ss_M} (mask x : Int32) (hL : LAY σ) (hg : gOk n0 g) (hc : cPg σ 0 g) (hm : mPg τ g) : ∀ m b : Nat, b + m = 31 → 1 ≤ b → ∀ (A : Nat) (a c : Nat → Int32) (cnt : Nat → Nat) (n1 n2 : Nat), A + 1 ≤ b → (∀ t, t ≤ g.1.2.2.1 → a (fSl g.1.2.2.1 t) = nI (cnt t) ∧ c t = nI (cnt t) ∧ cnt t + 1 ≤ b) → m < n1 → m < n2 → ∃ A' a' c', A' ≤ 30 ∧ f_X7_mostAlike_L13 mask x n1 (nI A) (nI b) (sAu σ 15 0 a) = some (nI A', sAu σ 15 0 a') ∧ f_X8_alike_L31 mask x n2 (nI A) (nI b) (sAu τ 30 0 c) = some (nI A', sAu τ 30 0 c') := by
  intro m
  have h12 := hg.2.2.1
  induction m with
  | zero =>
    intro b hb h1 A a c cnt n1 n2 hA hi hn1 hn2
    obtain ⟨n1', rfl⟩ : ∃ n', n1 = n' + 1 := ⟨n1 - 1, by omega⟩
    obtain ⟨n2', rfl⟩ : ∃ n', n2 = n' + 1 := ⟨n2 - 1, by omega⟩
    have : b = 31 := by omega
    subst this
    refine ⟨A, a, c, by omega, ?_, ?_⟩
    · rw [f_X7_mostAlike_L13, if_pos (show (30 : Int32) < nI 31 by decide)]
    · rw [f_X8_alike_L31, if_pos (show (30 : Int32) < nI 31 by decide)]
  | succ m ih =>
    intro b hb h1 A a c cnt n1 n2 hA hi hn1 hn2
    obtain ⟨n1', rfl⟩ : ∃ n', n1 = n' + 1 := ⟨n1 - 1, by omega⟩
    obtain ⟨n2', rfl⟩ : ∃ n', n2 = n' + 1 := ⟨n2 - 1, by omega⟩
    have b30 : ¬ (30 : Int32) < nI b := nI_nlt (b := b) (a := 30) (by omega) (by decide)
    rw [f_X7_mostAlike_L13, f_X8_alike_L31, if_neg b30, if_neg b30]
    by_cases q : (mask >>> (nI b &&& 31)) &&& 1 = 1
    · have hc' : cPg (sAu σ 15 0 a) 0 g := hc.same hL (by decide) hg (pgE_a (by omega) (by omega))
      have hm' : mPg (sAu τ 30 0 c) g := hm.same (QM_a (by omega)).2
      obtain ⟨t, ht⟩ : ∃ t, t = gSt g b x := ⟨_, rfl⟩
      have htw : t ≤ g.1.2.2.1 := by rw [ht]; exact gSt_le g b x
      have hs : fSl g.1.2.2.1 t ≤ 12 := by unfold fSl; split <;> omega
      obtain ⟨i1, i2, i3⟩ := hi t htw
      have es : gd (nI (fSl g.1.2.2.1 t)) 13 = true := gd_nI (by omega) (by decide)
      have et : gd (nI t) 13 = true := gd_nI (by omega) (by decide)
      obtain ⟨A', a', c', k1, k2, k3⟩ := ih (b + 1) (by omega) (by omega) (max A (cnt t + 1)) (upd a (fSl g.1.2.2.1 t) (nI (cnt t + 1))) (upd c t (nI (cnt t + 1))) (fun u => if u = t then cnt t + 1 else cnt u) n1' n2' (by omega) (fun u hu => by
        obtain ⟨j1, j2, j3⟩ := hi u hu
        by_cases e : u = t
        · subst e
          exact ⟨by rw [upd_m, if_pos rfl], by rw [upd_m, if_pos rfl], by rw [if_pos rfl]; omega⟩
        · refine ⟨?_, ?_, by rw [if_neg e]; omega⟩
          · rw [if_neg e]
            unfold upd
            rw [if_neg (by unfold fSl; split <;> split <;> omega)]
            exact j1
          · rw [if_neg e]
            unfold upd
            rw [if_neg e]
            exact j2) (by omega) (by omega)
      refine ⟨A', a', c', k1, ?_, ?_⟩
      · have key : f_X7_mostAlike_j55 (nI A) (nI b) (f_X7_mostAlike_L13 mask x n1') (nI (fSl g.1.2.2.1 t)) (sAu σ 15 0 a) = some (nI A', sAu σ 15 0 a') := by
          unfold f_X7_mostAlike_j55 f_X7_mostAlike_j80
          rw [if_pos es, if_pos es, if_pos es, nI_clamp (by omega), sA_m, sA_m, upd_m, i1, nIa1, nI_max (by omega) (by omega), sA_2, nIa1]
          exact k2
        rw [if_pos q, v_stuck (by omega) hg hc', ss_bd_e, ← ht]
        by_cases e : t = g.1.2.2.1
        · rw [if_pos e, if_pos rfl]
          have e12 : nI (fSl g.1.2.2.1 t) = 12 := by unfold fSl; rw [if_pos e]; rfl
          rw [e12] at key
          exact key
        · rw [if_neg e, if_neg (nm1 (by omega))]
          have e12 : fSl g.1.2.2.1 t = t := by unfold fSl; rw [if_neg e]
          rw [e12] at key
          exact key
      · rw [if_pos q, w_stuck (by omega) hg hm', ss_bd_e, ← ht, if_pos et, if_pos et, if_pos et, nI_clamp (by omega), sA_m, sA_m, upd_m, i2, nIa1, w_grt (by omega) (by omega), ss_bd_e, sA_2]
        unfold f_X8_alike_j80
        rw [nIa1]
        exact k3
    · rw [if_neg q, if_neg q]
      unfold f_X7_mostAlike_j80 f_X8_alike_j80
      rw [nIa1]
      exact ih (b + 1) (by omega) (by omega) A a c cnt n1' n2' (by omega) (fun t ht => ⟨(hi t ht).1, (hi t ht).2.1, by have := (hi t ht).2.2; omega⟩) (by omega) (by omega)
theorem alike {n0 : Nat} {g : pPg} {σ τ : ss_M} (mask x : Int32) (hL : LAY σ) (hg : gOk n0 g) (hc : cPg σ 0 g) (hm : mPg τ g) : ∃ A a c, A ≤ 30 ∧ f_X7_mostAlike mask x σ = some (nI A, sAu σ 15 0 a) ∧ f_X8_alike mask x τ = some (nI A, sAu τ 30 0 c) := by
  have h12 := hg.2.2.1
  obtain ⟨A, a, c, k1, k2, k3⟩ := al_L mask x hL hg hc hm 30 1 rfl (by decide) 0 (fll (sA σ 15 0) 0 13) (fll (sA τ 30 0) 0 (g.1.2.2.1 + 1)) (fun _ => 0) FU FU (by decide) (fun t ht => ⟨by
    have : fSl g.1.2.2.1 t ≤ 12 := by unfold fSl; split <;> omega
    unfold fll
    rw [if_pos (by omega)]
    rfl, by
    unfold fll
    rw [if_pos (by omega)]
    rfl, by decide⟩) (FU_gt (by decide)) (FU_gt (by decide))
  refine ⟨A, a, c, k1, ?_, ?_⟩
  · unfold f_X7_mostAlike
    rw [v_fill 15 0 0 σ (by decide), Option.bind_some]
    exact k2
  · have e := w_fill (f_X8_alike_j28 mask x) τ (sA τ 30 0) h12 hm.1.2.2.1 (g.1.2.2.1 + 1) 0 (Nat.zero_add _) FU (FU_gt (by omega))
    rw [fll_0, ex_sA] at e
    exact e.trans k3
theorem sh_L {n0 : Nat} {g : pPg} (mask : Int32) (hz : ¬ mask = 0) (hg : gOk n0 g) : ∀ m i : Nat, i + m = g.1.2.2.1 → ∀ (σ τ : ss_M) (x : Int32) (F F' : Nat) (n1 n2 : Nat), LAY σ → cPg σ 0 g → mPg τ g → ((F = 31 ∧ F' = 1048576) ∨ (F = F' ∧ F ≤ 30)) → m < n1 → m < n2 → ∃ r σ' τ', f_X7_shorter_L22 mask n1 x (nI F) (nI i) σ = some (r, σ') ∧ f_X8_shorter_L13 mask n2 x (nI F') (nI i) τ = some (r, τ') ∧ QC σ σ' ∧ QM τ τ' := by
  intro m
  have h12 := hg.2.2.1
  induction m with
  | zero =>
    intro i hi σ τ x F F' n1 n2 hL hc hm hF hn1 hn2
    obtain ⟨n1', rfl⟩ : ∃ n', n1 = n' + 1 := ⟨n1 - 1, by omega⟩
    obtain ⟨n2', rfl⟩ : ∃ n', n2 = n' + 1 := ⟨n2 - 1, by omega⟩
    refine ⟨x, σ, τ, ?_, ?_, QC.rf hL, QM.rf⟩
    · rw [f_X7_shorter_L22, hc.1.2.2.1, if_pos (nI_le (by omega) (by omega))]
    · rw [f_X8_shorter_L13, hm.1.2.2.1, if_pos (nI_le (by omega) (by omega))]
  | succ m ih =>
    intro i hi σ τ x F F' n1 n2 hL hc hm hF hn1 hn2
    obtain ⟨n1', rfl⟩ : ∃ n', n1 = n' + 1 := ⟨n1 - 1, by omega⟩
    obtain ⟨n2', rfl⟩ : ∃ n', n2 = n' + 1 := ⟨n2 - 1, by omega⟩
    obtain ⟨A, a, c, k1, k2, k3⟩ := alike mask (nI i) hL hg hc hm
    have q1 : QC σ (sAu σ 15 0 a) := QC_a hL (by omega)
    have q2 : QM τ (sAu τ 30 0 c) := QM_a (by omega)
    have hc' := hc.same hL (by decide) hg q1.2
    have hm' := hm.same q2.2
    have hwi : ¬ nI g.1.2.2.1 ≤ nI i := lit_nle (by omega) (by omega) (by omega)
    have hF2 : F' ≤ 1048576 := by omega
    rw [f_X7_shorter_L22, hc.1.2.2.1, if_neg hwi, k2, ss_bd_e, f_X8_shorter_L13, hm.1.2.2.1, if_neg hwi, if_neg hz, k3, ss_bd_e]
    unfold f_X7_shorter_j55 f_X8_shorter_j47
    rw [w_less (by omega) (by omega), ss_bd_e, nIa1]
    by_cases q : F ≤ A
    · rw [if_pos (nI_le q (by omega)), if_pos (nI_le (show F' ≤ A by omega) (by omega))]
      obtain ⟨r, σ', τ', d1, d2, d3, d4⟩ := ih (i + 1) (by omega) (sAu σ 15 0 a) (sAu τ 30 0 c) x F (min A F') n1' n2' (LAY_a hL) hc' hm' (by omega) (by omega) (by omega)
      exact ⟨r, σ', τ', d1, d2, q1.tr d3, q2.tr d4⟩
    · rw [if_neg (lit_nle (by omega) (by omega) (by omega)), if_neg (lit_nle (by omega) (by omega) (by omega))]
      obtain ⟨r, σ', τ', d1, d2, d3, d4⟩ := ih (i + 1) (by omega) (sAu σ 15 0 a) (sAu τ 30 0 c) (nI i) A (min A F') n1' n2' (LAY_a hL) hc' hm' (by omega) (by omega) (by omega)
      exact ⟨r, σ', τ', d1, d2, q1.tr d3, q2.tr d4⟩
theorem sim_shorter {n : Nat} {σ τ : ss_M} (H : Cpl n σ τ) : simI n (f_X7_shorter σ) (f_X8_shorter τ) := by
  obtain ⟨g, hg, hc, hm⟩ := H.2.1
  have h12 := hg.2.2.1
  unfold f_X7_shorter f_X8_shorter
  rw [v_brs hg hc, w_brs hg hm, ss_bd_e, ss_bd_e]
  by_cases z : gBr g = 0
  · have e : f_X8_shorter_L13 (gBr g) FU (-1) 1048576 0 τ = some (-1, τ) := by
      obtain ⟨n', h⟩ : ∃ n', FU = n' + 1 := ⟨FU - 1, by have := FU_gt (m := 0) (by decide); omega⟩
      rw [h, f_X8_shorter_L13, if_pos z]
      split <;> rfl
    rw [if_pos z, e]
    exact simI.q H rfl rfl
  · rw [if_neg z]
    obtain ⟨r, σ', τ', d1, d2, d3, d4⟩ := sh_L (gBr g) z hg g.1.2.2.1 0 (Nat.zero_add _) σ τ (-1) 31 1048576 FU FU H.1 hc hm (Or.inl ⟨rfl, rfl⟩) (FU_gt (by omega)) (FU_gt (by omega))
    exact ⟨r, σ', τ', d1, d2, H.q d3 d4⟩
