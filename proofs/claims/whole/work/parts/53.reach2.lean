/-! reach, the loops -/
theorem alen9 : alen 9 = 31 := rfl
theorem alen10 : alen 10 = 31 := rfl
theorem rel_big {x y : Int32} {U : Nat} (h : rel x y) (hU : U ≤ 999) : (nI U < x ↔ nI U < y) ∧ (¬ nI U < x → ∃ v, v ≤ 999 ∧ x = nI v ∧ y = nI v) := by
  rcases h with ⟨u, hu, rfl, rfl⟩ | ⟨rfl, rfl⟩
  · refine ⟨Iff.rfl, fun q => ⟨u, ?_, rfl, rfl⟩⟩
    have : ¬ U < u := fun z => q (nI_lt z (by omega))
    omega
  · exact ⟨⟨fun _ => nI_lt (by omega) (by omega), fun _ => nI_lt (by omega) (by omega)⟩, fun q => absurd (nI_lt (by omega) (by omega)) q⟩
theorem re_L {n0 i U : Nat} {g : pPg} (k1 k2 : Int32 → ss_M → Option (Int32 × ss_M)) (hn : n0 ≤ 1000) (hg : gOk n0 g) (hi : i < g.1.2.2.1) (hU : U ≤ 999) : ∀ m c : Nat, g.1.1 + 1 ≤ c + m → g.2.1 i ≤ c → c ≤ 40 → ∀ (fl : Int32) (σ τ : ss_M) (n1 n2 : Nat), (fl = 0 ∨ fl = 1) → iRe g σ τ → m < n1 → m < n2 → ∃ fl' σ' τ', (fl' = 0 ∨ fl' = 1) ∧ f_X5_reachFor_L49 0 (nI U) (nI i) k1 n1 fl (nI c) σ = k1 fl' σ' ∧ f_X8_reach_L95 (nI U) (nI i) k2 n2 fl (nI c) τ = k2 fl' τ' ∧ iRe g σ' τ' ∧ QC σ σ' ∧ QM τ τ' := by
  have h12 := hg.2.2.1
  have hB := hg.1.2
  intro m
  induction m with
  | zero =>
    intro c hc hl h40 fl σ τ n1 n2 hf I h1 h2
    obtain ⟨n1', rfl⟩ : ∃ n', n1 = n' + 1 := ⟨n1 - 1, by omega⟩
    obtain ⟨n2', rfl⟩ : ∃ n', n2 = n' + 1 := ⟨n2 - 1, by omega⟩
    refine ⟨fl, σ, τ, hf, ?_, ?_, I, QC.rf I.1, QM.rf⟩
    · rw [f_X5_reachFor_L49, I.2.1.1.1, if_pos (nI_lt (by omega) (by omega))]
    · rw [f_X8_reach_L95, I.2.2.1.1.1, if_pos (nI_lt (by omega) (by omega))]
  | succ m ih =>
    intro c hc hl h40 fl σ τ n1 n2 hf I h1 h2
    obtain ⟨n1', rfl⟩ : ∃ n', n1 = n' + 1 := ⟨n1 - 1, by omega⟩
    obtain ⟨n2', rfl⟩ : ∃ n', n2 = n' + 1 := ⟨n2 - 1, by omega⟩
    by_cases hcB : g.1.1 < c
    · refine ⟨fl, σ, τ, hf, ?_, ?_, I, QC.rf I.1, QM.rf⟩
      · rw [f_X5_reachFor_L49, I.2.1.1.1, if_pos (nI_lt (by omega) (by omega))]
      · rw [f_X8_reach_L95, I.2.2.1.1.1, if_pos (nI_lt (by omega) (by omega))]
    · have e31 : gd (nI c) 31 = true := gd_nI (by omega) (by decide)
      have ec : (nI c).toNatClampNeg = c := nI_clamp (by omega)
      have nB : ¬ nI g.1.1 < nI c := nI_nlt (by omega) (by omega)
      obtain ⟨r1, r2⟩ := rel_big (I.2.2.2.1 c (by omega)) hU
      rw [f_X5_reachFor_L49, f_X8_reach_L95, I.2.1.1.1, I.2.2.1.1.1, if_neg nB, if_neg nB, if_pos e31, if_pos e31, ec]
      unfold f_X5_reachFor_j80
      rw [nIa1]
      by_cases q : nI U < sA σ 9 0 c
      · rw [if_pos q, if_pos (r1.mp q)]
        unfold f_X8_reach_j216
        rw [nIa1]
        exact ih (c + 1) (by omega) (by omega) (by omega) fl σ τ n1' n2' hf I (by omega) (by omega)
      · rw [if_neg q, if_neg (fun z => q (r1.mpr z))]
        obtain ⟨v, v1, v2, v3⟩ := r2 q
        obtain ⟨N, hN⟩ : ∃ N, N = if g.2.2.2.1.2.2.1 i = -1 then 7 else 1 := ⟨_, rfl⟩
        have hN7 : N ≤ 7 := by rw [hN]; split <;> omega
        obtain ⟨σ1, τ1, a1, a2, a3, a4, a5⟩ := sp_L (f_X8_reach_j216 (nI c) (f_X8_reach_L95 (nI U) (nI i) k2 n2')) hn hg hi hl (by omega) v1 N hN N 0 (Nat.zero_add _) σ τ FU FU I v2 v3 (FU_gt (by omega)) (FU_gt (by omega))
        have e1 : f_X5_spread 0 (nI i) (nI c) σ = some σ1 := by
          unfold f_X5_spread f_X5_spread_j22
          rw [if_pos (gd_nI (show i < 12 by omega) (by decide)), nI_clamp (show i < 2 ^ 31 by omega), I.2.1.2.2.2.1.2.2.1 i hi]
          by_cases z : g.2.2.2.1.2.2.1 i = -1
          · rw [if_pos z]
            rw [if_pos z] at a1
            exact a1
          · rw [if_neg z]
            rw [if_neg z] at a1
            exact a1
        obtain ⟨fl', σ', τ', b1, b2, b3, b4, b5, b6⟩ := ih (c + 1) (by omega) (by omega) (by omega) 1 σ1 τ1 n1' n2' (Or.inr rfl) a3 (by omega) (by omega)
        refine ⟨fl', σ', τ', b1, ?_, ?_, b4, a4.tr b5, a5.tr b6⟩
        · rw [e1, Option.bind_some]
          exact b2
        · refine Eq.trans a2 ?_
          unfold f_X8_reach_j216
          rw [nIa1]
          exact b3
theorem w_fl65 (k : ss_M → Option (Int32 × ss_M)) (τ : ss_M) (r : Nat → Int32) : ∀ m i : Nat, i + m = 31 → ∀ n, m < n → f_X8_reach_L65 k n (nI i) (sAu τ 27 0 (fll r (nI 1048576) i)) = k (sAu τ 27 0 (fll r (nI 1048576) 31)) := by
  intro m
  induction m with
  | zero =>
    intro i hi n hn
    obtain ⟨n', rfl⟩ : ∃ n', n = n' + 1 := ⟨n - 1, by omega⟩
    have : i = 31 := by omega
    subst this
    rw [f_X8_reach_L65, if_pos (show (30 : Int32) < nI 31 by decide)]
  | succ m ih =>
    intro i hi n hn
    obtain ⟨n', rfl⟩ : ∃ n', n = n' + 1 := ⟨n - 1, by omega⟩
    rw [f_X8_reach_L65, if_neg (show ¬ (30 : Int32) < nI i from nI_nlt (b := i) (a := 30) (by omega) (by decide)), if_pos (gd_nI (by omega) (by decide)), nI_clamp (by omega), nIa1, sA_m, sA_2, show (1048576 : Int32) = nI 1048576 from rfl, fll_s]
    exact ih (i + 1) (by omega) n' (by omega)
theorem w_cp231 (k : ss_M → Option (Int32 × ss_M)) (τ : ss_M) (r : Nat → Int32) : ∀ m i : Nat, i + m = 31 → ∀ n, m < n → f_X8_reach_L231 k n (nI i) (sAu τ 26 0 (bks r (sA τ 27 0) 0 i)) = k (sAu τ 26 0 (bks r (sA τ 27 0) 0 31)) := by
  intro m
  induction m with
  | zero =>
    intro i hi n hn
    obtain ⟨n', rfl⟩ : ∃ n', n = n' + 1 := ⟨n - 1, by omega⟩
    have : i = 31 := by omega
    subst this
    rw [f_X8_reach_L231, if_pos (show (30 : Int32) < nI 31 by decide)]
  | succ m ih =>
    intro i hi n hn
    obtain ⟨n', rfl⟩ : ∃ n', n = n' + 1 := ⟨n - 1, by omega⟩
    have q1 : ∀ v, sA (sAu τ 26 0 v) 27 0 = sA τ 27 0 := fun v => by rw [sA_n _ _ (by omega)]
    have b := bks_s r (sA τ 27 0) 0 i
    rw [Nat.zero_add] at b
    rw [f_X8_reach_L231, if_neg (show ¬ (30 : Int32) < nI i from nI_nlt (b := i) (a := 30) (by omega) (by decide)), if_pos (gd_nI (by omega) (by decide)), if_pos (gd_nI (by omega) (by decide)), nI_clamp (by omega), nIa1, sA_m, sA_2, q1, b]
    exact ih (i + 1) (by omega) n' (by omega)
theorem gdc31 : gdc (0 : Int32) (0 : Int32) (31 : Int32) 31 31 = true := by decide
theorem c31 : (31 : Int32).toNatClampNeg = 31 := by decide
def iRn (g : pPg) (σ τ : ss_M) : Prop := LAY σ ∧ cPg σ 0 g ∧ mPg τ g ∧ ∀ c, c ≤ 30 → rel (sA σ 9 0 c) (sA τ 26 0 c)
theorem rp_L {n0 U : Nat} {g : pPg} (hn : n0 ≤ 1000) (hg : gOk n0 g) (hU : U ≤ 999) : ∀ m i : Nat, i + m = g.1.2.2.1 → ∀ (σ τ : ss_M) (n1 n2 : Nat), iRn g σ τ → m < n1 → m < n2 → ∃ r σ' τ', f_X5_reachFor_L21 0 (nI U) (f_X5_reachFor_j117 0) n1 (nI i) σ = some (r, σ') ∧ f_X8_reach_L52 (nI U) f_X8_reach_j264 n2 (nI i) τ = some (r, τ') ∧ QC σ σ' ∧ QM τ τ' := by
  have h12 := hg.2.2.1
  have hB := hg.1.2
  intro m
  induction m with
  | zero =>
    intro i hi σ τ n1 n2 I h1 h2
    obtain ⟨n1', rfl⟩ : ∃ n', n1 = n' + 1 := ⟨n1 - 1, by omega⟩
    obtain ⟨n2', rfl⟩ : ∃ n', n2 = n' + 1 := ⟨n2 - 1, by omega⟩
    refine ⟨nI g.1.2.2.1, σ, τ, ?_, ?_, QC.rf I.1, QM.rf⟩
    · rw [f_X5_reachFor_L21, I.2.1.1.2.2.1, if_pos (nI_le (by omega) (by omega))]
      unfold f_X5_reachFor_j117
      rw [I.2.1.1.2.2.1]
    · rw [f_X8_reach_L52, I.2.2.1.1.2.2.1, if_pos (nI_le (by omega) (by omega))]
      unfold f_X8_reach_j264
      rw [I.2.2.1.1.2.2.1]
  | succ m ih =>
    intro i hi σ τ n1 n2 I h1 h2
    obtain ⟨n1', rfl⟩ : ∃ n', n1 = n' + 1 := ⟨n1 - 1, by omega⟩
    obtain ⟨n2', rfl⟩ : ∃ n', n2 = n' + 1 := ⟨n2 - 1, by omega⟩
    have hiw : i < g.1.2.2.1 := by omega
    have l9 := (hg.2.2.2.2.2.1 i hiw).2
    have nw : ¬ nI g.1.2.2.1 ≤ nI i := lit_nle (by omega) (by omega) (by omega)
    obtain ⟨σ1, hσ1⟩ : ∃ σ1, σ1 = sAu σ 10 0 (fll (sA σ 10 0) (nI 1000000) 31) := ⟨_, rfl⟩
    obtain ⟨τ1, hτ1⟩ : ∃ τ1, τ1 = sAu τ 27 0 (fll (sA τ 27 0) (nI 1048576) 31) := ⟨_, rfl⟩
    have qc1 : QC σ σ1 := by rw [hσ1]; exact QC_a I.1 (by omega)
    have qm1 : QM τ τ1 := by rw [hτ1]; exact QM_a (by omega)
    have I1 : iRe g σ1 τ1 := by
      refine ⟨by rw [hσ1]; exact LAY_a I.1, I.2.1.same I.1 (by decide) hg qc1.2, I.2.2.1.same qm1.2, fun c hc => ?_, fun c hc => ?_⟩
      · rw [hσ1, hτ1, sA_n _ _ (by omega), sA_n _ _ (by omega)]; exact I.2.2.2 c hc
      · rw [hσ1, hτ1, sA_m, sA_m]
        unfold fll
        rw [if_pos (by omega), if_pos (by omega)]
        exact Or.inr ⟨rfl, rfl⟩
    obtain ⟨fl', σ2, τ2, b1, b2, b3, b4, b5, b6⟩ := re_L (f_X5_reachFor_j86 (nI i) (f_X5_reachFor_L21 0 (nI U) (f_X5_reachFor_j117 0) n1')) (f_X8_reach_j222 (nI i) (f_X8_reach_L52 (nI U) f_X8_reach_j264 n2')) hn hg hiw hU 31 (g.2.1 i) (by omega) (Nat.le_refl _) (by omega) 0 σ1 τ1 FU FU (Or.inl rfl) I1 (FU_gt (by decide)) (FU_gt (by decide))
    have e1 : f_X5_reachFor_L21 0 (nI U) (f_X5_reachFor_j117 0) (n1' + 1) (nI i) σ = f_X5_reachFor_j86 (nI i) (f_X5_reachFor_L21 0 (nI U) (f_X5_reachFor_j117 0) n1') fl' σ2 := by
      rw [f_X5_reachFor_L21, I.2.1.1.2.2.1, if_neg nw, v_fill 10 0 _ σ (by decide), Option.bind_some, alen10, show (1000000 : Int32) = nI 1000000 from rfl, ← hσ1, if_pos (gd_nI (by omega) (by decide)), nI_clamp (by omega), I1.2.1.2.1 i hiw]
      exact b2
    have e2 : f_X8_reach_L52 (nI U) f_X8_reach_j264 (n2' + 1) (nI i) τ = f_X8_reach_j222 (nI i) (f_X8_reach_L52 (nI U) f_X8_reach_j264 n2') fl' τ2 := by
      have f := w_fl65 (f_X8_reach_j87 (nI U) (nI i) (f_X8_reach_L52 (nI U) f_X8_reach_j264 n2')) τ (sA τ 27 0) 31 0 rfl FU (FU_gt (by decide))
      rw [fll_0, ex_sA, ← hτ1] at f
      rw [f_X8_reach_L52, I.2.2.1.1.2.2.1, if_neg nw]
      refine Eq.trans f ?_
      unfold f_X8_reach_j87
      rw [if_pos (gd_nI (by omega) (by decide)), nI_clamp (by omega), I1.2.2.1.2.1 i hiw]
      exact b3
    rw [e1, e2]
    unfold f_X5_reachFor_j86 f_X8_reach_j222
    rcases b1 with rfl | rfl
    · rw [if_pos rfl, if_pos rfl]
      exact ⟨nI i, σ2, τ2, rfl, rfl, qc1.tr b5, qm1.tr b6⟩
    · rw [if_neg n10, if_neg n10, if_pos gdc31, c_0, c31, nIa1]
      have f := w_cp231 (f_X8_reach_j258 (nI i) (f_X8_reach_L52 (nI U) f_X8_reach_j264 n2')) τ2 (sA τ2 26 0) 31 0 rfl FU (FU_gt (by decide))
      rw [bks_0, ex_sA] at f
      have qc3 : QC σ2 (sAu σ2 9 0 (va_cpy (sA σ2 10 0) (sA σ2 9 0) 0 0 31)) := QC_a b4.1 (by omega)
      have qm3 : QM τ2 (sAu τ2 26 0 (bks (sA τ2 26 0) (sA τ2 27 0) 0 31)) := QM_a (by omega)
      have I3 : iRn g (sAu σ2 9 0 (va_cpy (sA σ2 10 0) (sA σ2 9 0) 0 0 31)) (sAu τ2 26 0 (bks (sA τ2 26 0) (sA τ2 27 0) 0 31)) := by
        refine ⟨LAY_a b4.1, b4.2.1.same b4.1 (by decide) hg qc3.2, b4.2.2.1.same qm3.2, fun c hc => ?_⟩
        rw [sA_m, sA_m, pk_cpy_in (by omega) (by omega), bks_in (by omega)]
        have : (0 : Nat) + (c - 0) = c := by omega
        rw [this, Nat.zero_add]
        exact b4.2.2.2.2 c hc
      obtain ⟨r, σ', τ', d1, d2, d3, d4⟩ := ih (i + 1) (by omega) _ _ n1' n2' I3 (by omega) (by omega)
      refine ⟨r, σ', τ', d1, ?_, ((qc1.tr b5).tr qc3).tr d3, ((qm1.tr b6).tr qm3).tr d4⟩
      refine Eq.trans f ?_
      unfold f_X8_reach_j258
      rw [nIa1]
      exact d2
def stB (B : Nat) (r : Nat → Int32) (i : Nat) : Nat → Int32 := fun j => if j < i then (if j = B then 0 else nI 1048576) else r j
theorem stB_0 (B : Nat) (r : Nat → Int32) : stB B r 0 = r := by
  funext j
  unfold stB
  rw [if_neg (by omega)]
theorem stB_s (B : Nat) (r : Nat → Int32) (i : Nat) : upd (stB B r i) i (if i = B then 0 else nI 1048576) = stB B r (i + 1) := by
  funext j
  unfold upd stB
  by_cases h1 : j = i
  · rw [if_pos h1, if_pos (show j < i + 1 by omega), h1]
  · rw [if_neg h1]
    by_cases h2 : j < i
    · rw [if_pos h2, if_pos (show j < i + 1 by omega)]
    · rw [if_neg h2, if_neg (show ¬ j < i + 1 by omega)]
theorem w_st18 {B : Nat} (k : ss_M → Option (Int32 × ss_M)) (τ : ss_M) (r : Nat → Int32) (hB : B ≤ 30) (e : sG τ 18 0 = nI B) : ∀ m i : Nat, i + m = 31 → ∀ n, m < n → f_X8_reach_L18 k n (nI i) (sAu τ 26 0 (stB B r i)) = k (sAu τ 26 0 (stB B r 31)) := by
  intro m
  induction m with
  | zero =>
    intro i hi n hn
    obtain ⟨n', rfl⟩ : ∃ n', n = n' + 1 := ⟨n - 1, by omega⟩
    have : i = 31 := by omega
    subst this
    rw [f_X8_reach_L18, if_pos (show (30 : Int32) < nI 31 by decide)]
  | succ m ih =>
    intro i hi n hn
    obtain ⟨n', rfl⟩ : ∃ n', n = n' + 1 := ⟨n - 1, by omega⟩
    have h := ih (i + 1) (by omega) n' (by omega)
    rw [← stB_s] at h
    rw [f_X8_reach_L18, if_neg (show ¬ (30 : Int32) < nI i from nI_nlt (b := i) (a := 30) (by omega) (by decide)), sG_A, e]
    unfold f_X8_reach_j43
    have e31 : gd (nI i) 31 = true := gd_nI (by omega) (by decide)
    rw [if_pos e31, if_pos e31, nI_clamp (by omega), nIa1, sA_m, sA_2, sA_2]
    by_cases q : i = B
    · rw [if_pos (by rw [q])]
      rw [if_pos q] at h
      exact h
    · rw [if_neg (fun z => q ((nI_eq (by omega) (by omega)).mp z))]
      rw [if_neg q] at h
      exact h
theorem sim_reach {n : Nat} {σ τ : ss_M} (hn : n ≤ 1000) (H : Cpl n σ τ) (p0 : Int32) : simI n (f_X7_reach p0 σ) (f_X8_reach p0 τ) := by
  obtain ⟨g, hg, hc, hm⟩ := H.2.1
  have hB := hg.1.2
  have h12 := hg.2.2.1
  unfold f_X7_reach f_X8_reach
  by_cases h : 0 ≤ p0 ∧ p0 ≤ 999
  · obtain ⟨U, -, hU, rfl⟩ := i_mid (a := 0) (b := 999) (by omega) h.1 h.2 (by omega)
    rw [v_in1 h, w_in1 h, ss_bd_e, ss_bd_e, if_neg n10, if_neg n10]
    obtain ⟨σ1, hσ1⟩ : ∃ σ1, σ1 = sAu σ 9 0 (upd (fll (sA σ 9 0) (nI 1000000) 31) g.1.1 0) := ⟨_, rfl⟩
    obtain ⟨τ1, hτ1⟩ : ∃ τ1, τ1 = sAu τ 26 0 (stB g.1.1 (sA τ 26 0) 31) := ⟨_, rfl⟩
    have qc1 : QC σ σ1 := by rw [hσ1]; exact QC_a H.1 (by omega)
    have qm1 : QM τ τ1 := by rw [hτ1]; exact QM_a (by omega)
    have I : iRn g σ1 τ1 := by
      refine ⟨by rw [hσ1]; exact LAY_a H.1, hc.same H.1 (by decide) hg qc1.2, hm.same qm1.2, fun c hc' => ?_⟩
      rw [hσ1, hτ1, sA_m, sA_m]
      unfold stB
      rw [if_pos (by omega)]
      by_cases q : c = g.1.1
      · rw [if_pos q, q, upd_m]
        exact Or.inl ⟨0, by omega, rfl, rfl⟩
      · rw [if_neg q, upd_n q]
        unfold fll
        rw [if_pos (by omega)]
        exact Or.inr ⟨rfl, rfl⟩
    obtain ⟨r, σ', τ', d1, d2, d3, d4⟩ := rp_L hn hg hU g.1.2.2.1 0 (Nat.zero_add _) σ1 τ1 FU FU I (FU_gt (by omega)) (FU_gt (by omega))
    have e1 : f_X5_reachFor 0 (nI U) σ = some (r, σ') := by
      unfold f_X5_reachFor
      rw [v_fill 9 0 _ σ (by decide), Option.bind_some, alen9, sG_A, hc.1.1, if_pos (gd_nI (by omega) (by decide)), nI_clamp (by omega), sA_m, sA_2, show (1000000 : Int32) = nI 1000000 from rfl, ← hσ1]
      exact d1
    have e2 : f_X8_reach_L18 (f_X8_reach_j50 (nI U)) FU 0 τ = some (r, τ') := by
      have f := w_st18 (f_X8_reach_j50 (nI U)) τ (sA τ 26 0) hB hm.1.1 31 0 rfl FU (FU_gt (by decide))
      rw [stB_0, ex_sA, ← hτ1] at f
      exact f.trans d2
    rw [e1, ss_bd_e, e2]
    exact ⟨r, σ', τ', rfl, rfl, H.q (qc1.tr d3) (qm1.tr d4)⟩
  · rw [v_in0 h, w_in0 h, ss_bd_e, ss_bd_e, if_pos rfl, if_pos rfl, v_bad, w_bad]
    exact ⟨_, _, _, rfl, rfl, R_bad H⟩
