/-! read: the whole text, and both told -/
theorem tk_0 {t : Nat → Int32} {T q : Nat} : tkK t T q = 0 ↔ T ≤ q := by
  unfold tkK
  by_cases z : T ≤ q
  · rw [if_pos z]; exact ⟨fun _ => z, fun _ => rfl⟩
  · rw [if_neg z]
    refine ⟨fun y => ?_, fun y => absurd y z⟩
    exfalso
    split at y
    · rcases wrd_r t q (rE t T 97 122 q) with h | h | h | h <;> rw [h] at y <;> exact absurd y (by decide)
    · split at y
      · split at y <;> exact absurd y (by decide)
      · split at y <;> exact absurd y (by decide)
theorem Lx.s9 {t : Nat → Int32} {T q : Nat} {σ : ss_M} (v : Int32) (h : Lx t T q σ) : Lx t T q (sGu σ 9 0 v) := by
  refine ⟨h.1, h.2.1, ⟨by rw [sG_n _ _ (by omega)]; exact h.2.2.1.1, h.2.2.1.2⟩, by rw [sG_n _ _ (by omega)]; exact h.2.2.2.1, by rw [sG_n _ _ (by omega)]; exact h.2.2.2.2.1, fun z => by rw [sG_n _ _ (by omega)]; exact h.2.2.2.2.2.1 z, fun z => by rw [sG_n _ _ (by omega)]; exact h.2.2.2.2.2.2 z⟩
theorem itR.keep {k j : Nat} {σ σ' τ τ' : ss_M} (h : itR σ τ j) (hj : j < k) (h1 : frK k σ σ') (h2 : frR k τ τ') : itR σ' τ' j := by
  obtain ⟨w, a, b, e1, e2, e3, e4, e5, e6, e7, e8, e9⟩ := h
  refine ⟨w, a, b, e1, e2, e3, e4, ?_, ?_, ?_, ?_, fun y => ⟨?_, ?_⟩⟩
  · rw [h1.2.2 12 j (by omega) (by omega)]; exact e5
  · rw [h2.2 _ (by omega)]; exact e6
  · rw [h1.2.2 13 j (by omega) (by omega)]; exact e7
  · rw [h2.2 _ (by omega)]; exact e8
  · rw [h1.2.2 14 j (by omega) (by omega)]; exact (e9 y).1
  · rw [h2.2 _ (by omega)]; exact (e9 y).2
def rdP (σ τ : ss_M) (a b : Option (Int32 × ss_M)) : Prop := ∃ σ' τ' : ss_M, QC σ σ' ∧ QM τ τ' ∧ ((∃ K, 1 ≤ K ∧ K ≤ 25 ∧ a = some (-1, σ') ∧ b = some (1, τ') ∧ sG σ' 9 0 = nI K ∧ sG τ' 26 0 = nI K ∧ ∀ j, j < K → itR σ' τ' j) ∨ ∃ P, P ≤ 150 ∧ a = some (nI P, σ') ∧ b = some (0, τ') ∧ sG τ' 24 0 = nI P)
theorem rdP.tr {σ0 τ0 σ τ : ss_M} {a b : Option (Int32 × ss_M)} (h1 : QC σ0 σ) (h2 : QM τ0 τ) (h : rdP σ τ a b) : rdP σ0 τ0 a b := by
  obtain ⟨σ', τ', e1, e2, e3⟩ := h
  exact ⟨σ', τ', h1.tr e1, h2.tr e2, e3⟩
theorem L23_0 (n : Nat) (τ : ss_M) : f_X8_readsPage_L23 (n + 1) 0 τ = some (0, τ) := by
  rw [f_X8_readsPage_L23, if_pos rfl, if_pos (by decide)]
theorem ps_L {t : Nat → Int32} {T : Nat} (hT : T ≤ 150) : ∀ m q k : Nat, T ≤ q + m → ∀ (σ τ : ss_M) (n1 n2 : Nat), m + 1 < n1 → m + 1 < n2 → LAY σ → Lx t T q σ → tY t T τ → sG σ 9 0 = nI k → sG τ 26 0 = nI k → sG τ 24 0 = nI q → 1 ≤ k → 6 * k ≤ q → (∀ j, j < k → itR σ τ j) → rdP σ τ (f_X6_findFault_L14 f_X6_findFault_j63 f_X6_findFault_j45 n1 σ) (f_X8_readsPage_L23 n2 1 τ) := by
  intro m
  induction m with
  | zero =>
    intro q k hm σ τ n1 n2 h1 h2 hL hX hy h9 h26 h24 hk hkq hI
    obtain ⟨n1', rfl⟩ : ∃ n', n1 = n' + 1 := ⟨n1 - 1, by omega⟩
    obtain ⟨n2', rfl⟩ : ∃ n', n2 = n' + 1 := ⟨n2 - 1, by omega⟩
    have hq := hX.1
    refine ⟨σ, τ, QC.rf hL, QM.rf, Or.inl ⟨k, hk, by omega, ?_, ?_, h9, h26, hI⟩⟩
    · rw [f_X6_findFault_L14, h9, if_neg (show ¬ (150 : Int32) ≤ nI k from lit_nle (a := 150) (by decide) (by omega) (by omega)), hX.2.2.2.2.1, if_pos (tk_0.mpr (by omega))]
      unfold f_X6_findFault_j63
      rw [h9, if_neg (show ¬ nI k = 0 from fun y => by have := (nI_eq (b := 0) (by omega) (by decide)).mp y; omega)]
    · rw [f_X8_readsPage_L23, if_neg n10, hy.1, h24, if_pos (nI_le (by omega) (by omega)), if_pos b_1]
  | succ m ih =>
    intro q k hm σ τ n1 n2 h1 h2 hL hX hy h9 h26 h24 hk hkq hI
    obtain ⟨n1', rfl⟩ : ∃ n', n1 = n' + 1 := ⟨n1 - 1, by omega⟩
    obtain ⟨n2', rfl⟩ : ∃ n', n2 = n' + 1 := ⟨n2 - 1, by omega⟩
    have hq := hX.1
    by_cases hqT : q < T
    · obtain ⟨ok, σ', τ', q', e1, e2, e3, e4, e5, e6, e7, e8⟩ := it_step hT hL hX hy h9 h26 h24 hqT hkq
      have E1 : f_X6_findFault_L14 f_X6_findFault_j63 f_X6_findFault_j45 (n1' + 1) σ = if ok = true then f_X6_findFault_L14 f_X6_findFault_j63 f_X6_findFault_j45 n1' (sGu σ' 9 0 (sG σ' 9 0 + 1)) else f_X6_findFault_j45 σ' := by
        rw [f_X6_findFault_L14, h9, if_neg (show ¬ (150 : Int32) ≤ nI k from lit_nle (a := 150) (by decide) (by omega) (by omega)), hX.2.2.2.2.1, if_neg (fun y => by have := tk_0.mp y; omega)]
        exact e1 f_X6_findFault_j45 (fun σ7 => f_X6_findFault_L14 f_X6_findFault_j63 f_X6_findFault_j45 n1' (sGu σ7 9 0 (sG σ7 9 0 + 1)))
      have E2 : f_X8_readsPage_L23 (n2' + 1) 1 τ = f_X8_readsPage_L23 n2' (if ok = true then 1 else 0) τ' := by
        rw [f_X8_readsPage_L23, if_neg n10, hy.1, h24, if_neg (lit_nle (by omega) (by omega) hqT)]
        exact e2 (fun r8 σ9 => f_X8_readsPage_L23 n2' r8 σ9)
      rw [E1, E2]
      cases ok with
      | false =>
        obtain ⟨n3, rfl⟩ : ∃ n', n2' = n' + 1 := ⟨n2' - 1, by omega⟩
        rw [if_neg (show ¬ false = true by decide), if_neg (show ¬ false = true by decide), L23_0]
        refine ⟨σ', τ', e3.1, e4.1, Or.inr ⟨q', by omega, ?_, rfl, e5⟩⟩
        unfold f_X6_findFault_j45
        rw [e7]
      | true =>
        obtain ⟨g1, g2, g3, g4⟩ := e8 rfl
        rw [if_pos rfl, if_pos rfl, e3.2.1, h9, nIa1]
        have qc : QC σ (sGu σ' 9 0 (nI (k + 1))) := e3.1.tr (QC_s e3.1.1.1 (by omega))
        refine (ih q' (k + 1) (by omega) _ τ' n1' n2' (by omega) (by omega) qc.1.1 (g1.s9 _) (e4.1.tY hy) (sG_m _ _ _ _) g2 e5 (by omega) (by omega) (fun j hj => ?_)).tr qc e4.1
        by_cases z : j = k
        · rw [z]; exact g3
        · have r := (hI j (by omega)).keep (k := k) (by omega) e3 e4
          exact r
    · refine ⟨σ, τ, QC.rf hL, QM.rf, Or.inl ⟨k, hk, by omega, ?_, ?_, h9, h26, hI⟩⟩
      · rw [f_X6_findFault_L14, h9, if_neg (show ¬ (150 : Int32) ≤ nI k from lit_nle (a := 150) (by decide) (by omega) (by omega)), hX.2.2.2.2.1, if_pos (tk_0.mpr (by omega))]
        unfold f_X6_findFault_j63
        rw [h9, if_neg (show ¬ nI k = 0 from fun y => by have := (nI_eq (b := 0) (by omega) (by decide)).mp y; omega)]
      · rw [f_X8_readsPage_L23, if_neg n10, hy.1, h24, if_pos (nI_le (by omega) (by omega)), if_pos b_1]
theorem parse {t : Nat → Int32} {T : Nat} {σ τ : ss_M} (hT : T ≤ 150) (hL : LAY σ) (hx : tX t T σ) (hy : tY t T τ) : rdP σ τ (f_X6_findFault σ) (f_X8_readsPage τ) := by
  obtain ⟨q, hq⟩ : ∃ q, q = rE t T 32 32 0 := ⟨_, rfl⟩
  have hqT : q ≤ T := by rw [hq]; exact rE_le t T 32 32 T 0 (by omega)
  have hqi : rE t T 32 32 q = q := by rw [hq]; exact rE_id (by omega)
  have k0 : QC σ (sGu σ 13 0 0) := QC_s hL (by omega)
  obtain ⟨σ1, e1, l1, X1⟩ := v_next hT (k0.tX hx) (show sG (sGu σ 13 0 0) 13 0 = nI 0 by rw [sG_m]; rfl) (by omega)
  rw [← hq] at X1
  obtain ⟨σ2, hσ2⟩ : ∃ σ2, σ2 = sGu σ1 9 0 0 := ⟨_, rfl⟩
  have k1 : QC σ σ1 := k0.tr (l1.q k0.1.1)
  have k2 : QC σ σ2 := by rw [hσ2]; exact k1.tr (QC_s k1.1.1 (by omega))
  have X2 : Lx t T q σ2 := by rw [hσ2]; exact X1.s9 0
  have n9 : sG σ2 9 0 = nI 0 := by rw [hσ2, sG_m]; rfl
  obtain ⟨τ0, hτ0⟩ : ∃ τ0, τ0 = sGu (sGu τ 24 0 0) 26 0 0 := ⟨_, rfl⟩
  have m0 : QM τ τ0 := by rw [hτ0]; exact (QM_s (v := 0) (Or.inl rfl)).tr (QM_s (v := 0) (Or.inr (Or.inr rfl)))
  have p24 : sG τ0 24 0 = nI 0 := by rw [hτ0, sG_n _ _ (by omega), sG_m]; rfl
  have p26 : sG τ0 26 0 = nI 0 := by rw [hτ0, sG_m]; rfl
  obtain ⟨τ1, hτ1⟩ : ∃ τ1, τ1 = sGu τ0 24 0 (nI q) := ⟨_, rfl⟩
  have m1 : QM τ τ1 := by rw [hτ1]; exact m0.tr (QM_s (Or.inl rfl))
  have q24 : sG τ1 24 0 = nI q := by rw [hτ1, sG_m]
  have q26 : sG τ1 26 0 = nI 0 := by rw [hτ1, sG_n _ _ (by omega)]; exact p26
  have E1 : f_X6_findFault σ = f_X6_findFault_L14 f_X6_findFault_j63 f_X6_findFault_j45 FU σ2 := by
    unfold f_X6_findFault
    rw [e1, Option.bind_some, ← hσ2]
  have E2 : f_X8_readsPage τ = ss_bd (f_X8_readsItem τ1) (fun r2 σ2 => Option.bind (f_X8_skip σ2) (fun σ3 => f_X8_readsPage_L23 FU r2 σ3)) := by
    unfold f_X8_readsPage
    rw [← hτ0, w_skip hT (m0.tY hy) (show 0 ≤ T by omega) p24, Option.bind_some, ← hq, ← hτ1]
  rw [E1, E2]
  by_cases z : q < T
  · obtain ⟨ok, σ', τ', q', d1, d2, d3, d4, d5, d6, d7, d8⟩ := it_step hT k2.1.1 X2 (m1.tY hy) n9 q26 q24 z (by omega)
    have F1 : f_X6_findFault_L14 f_X6_findFault_j63 f_X6_findFault_j45 FU σ2 = if ok = true then f_X6_findFault_L14 f_X6_findFault_j63 f_X6_findFault_j45 9999 (sGu σ' 9 0 (sG σ' 9 0 + 1)) else f_X6_findFault_j45 σ' := by
      rw [show FU = 9999 + 1 from rfl, f_X6_findFault_L14, n9, if_neg (show ¬ (150 : Int32) ≤ nI 0 by decide), X2.2.2.2.2.1, if_neg (fun y => by have := tk_0.mp y; omega)]
      exact d1 f_X6_findFault_j45 (fun σ7 => f_X6_findFault_L14 f_X6_findFault_j63 f_X6_findFault_j45 9999 (sGu σ7 9 0 (sG σ7 9 0 + 1)))
    rw [F1, d2 (fun r8 σ9 => f_X8_readsPage_L23 FU r8 σ9)]
    cases ok with
    | false =>
      rw [if_neg (show ¬ false = true by decide), if_neg (show ¬ false = true by decide), show FU = 9999 + 1 from rfl, L23_0]
      refine ⟨σ', τ', k2.tr d3.1, m1.tr d4.1, Or.inr ⟨q', by omega, ?_, rfl, d5⟩⟩
      unfold f_X6_findFault_j45
      rw [d7]
    | true =>
      obtain ⟨g1, g2, g3, g4⟩ := d8 rfl
      rw [if_pos rfl, if_pos rfl, d3.2.1, n9, nIa1]
      have qc : QC σ (sGu σ' 9 0 (nI (0 + 1))) := (k2.tr d3.1).tr (QC_s (k2.tr d3.1).1.1 (by omega))
      refine (ps_L hT 150 q' 1 (by omega) _ τ' 9999 FU (by decide) (FU_gt (by decide)) qc.1.1 (g1.s9 _) (d4.1.tY (m1.tY hy)) (sG_m _ _ _ _) g2 d5 (by omega) (by omega) (fun j hj => ?_)).tr qc (m1.tr d4.1)
      have : j = 0 := by omega
      rw [this]
      exact g3
  · have hqe : q = T := by omega
    have R : f_X8_readsItem τ1 = some (0, τ1) := by
      unfold f_X8_readsItem
      have h0 : tkK t T q = 0 := tk_0.mpr (by omega)
      rw [w_word hT (m1.tY hy) q24 hqT, ss_bd_e, h0, if_neg (show ¬ (0 : Int32) = 1 by decide), if_neg (show ¬ (0 : Int32) = 2 by decide), if_neg (show ¬ (0 : Int32) = 3 by decide), if_pos rfl]
    rw [R, ss_bd_e, w_skip hT (m1.tY hy) hqT q24, Option.bind_some, hqi, show FU = 9999 + 1 from rfl, L23_0]
    refine ⟨σ2, sGu τ1 24 0 (nI q), k2, m1.tr (QM_s (Or.inl rfl)), Or.inr ⟨T, hT, ?_, rfl, by rw [sG_m, hqe]⟩⟩
    rw [f_X6_findFault_L14, n9, if_neg (show ¬ (150 : Int32) ≤ nI 0 by decide), X2.2.2.2.2.1, if_pos (tk_0.mpr (by omega))]
    unfold f_X6_findFault_j63
    rw [n9, if_pos (show nI 0 = (0 : Int32) from rfl), X2.2.2.1.1]
/-! what an item does -/
def itS (r : Nat → Int32) (j : Nat) (g : pPg) : pPg := if r (3 * j) = 0 then gNew g (r (3 * j + 1)).toNatClampNeg (r (3 * j + 2)).toNatClampNeg else if r (3 * j) = 1 then gAdd g (r (3 * j + 1)).toNatClampNeg else gSet g (r (3 * j + 1)).toNatClampNeg (r (3 * j + 2))
def okI (r : Nat → Int32) (j : Nat) (g : pPg) : Prop := if r (3 * j) = 0 then (1 ≤ r (3 * j + 1) ∧ r (3 * j + 1) ≤ 30) ∧ (1 ≤ r (3 * j + 2) ∧ r (3 * j + 2) ≤ 9) else if r (3 * j) = 1 then (1 ≤ r (3 * j + 1) ∧ r (3 * j + 1) ≤ 9) ∧ g.1.2.2.1 < 12 else isP (r (3 * j + 1)) g.1.2.2.1 ∧ (0 ≤ r (3 * j + 2) ∧ r (3 * j + 2) ≤ 5)
theorem gZ_id {g : pPg} (h : g.1.2.2.2.2 = 0) : ((g.1.1, g.1.2.1, g.1.2.2.1, g.1.2.2.2.1, 0), g.2) = g := by rw [← h]
/-- only the spare page changes -/
def sp1 (σ σ' : ss_M) : Prop := (∀ f o, ¬ (f ≤ 7 ∧ o = 1) → sG σ' f o = sG σ f o) ∧ (∀ c o, ¬ (c ≤ 5 ∧ o = 1) → sA σ' c o = sA σ c o) ∧ sL σ' = sL σ ∧ sR σ' = sR σ
theorem sp1.q {σ σ' : ss_M} (hL : LAY σ) (h : sp1 σ σ') : QC σ σ' := by
  have P : ∀ p, p ≠ 1 → p < 4 → pgE p σ σ' := fun p h1 h2 => ⟨fun f _ _ => h.1 f p (by omega), h.2.1 4 p (by omega), h.2.1 5 p (by omega), by rw [h.2.2.2], fun k hk => ⟨h.1 0 k (by omega), h.1 1 k (by omega), h.2.1 0 k (by omega), h.2.1 1 k (by omega)⟩⟩
  exact ⟨⟨by unfold LAY; rw [h.2.2.2]; exact hL, fun p h1 h2 => P p (by omega) h2, ⟨h.1 8 0 (by omega), h.2.1 11 0 (by omega)⟩, ⟨by rw [h.2.2.1], by rw [h.2.2.1]⟩, ⟨h.1 14 0 (by omega), h.1 15 0 (by omega), h.1 16 0 (by omega)⟩, h.2.1 101 0 (by omega)⟩, P 0 (by decide) (by decide)⟩
theorem itR.sp {σ σ' τ : ss_M} {j : Nat} (h : itR σ τ j) (k : sp1 σ σ') : itR σ' τ j := by
  obtain ⟨w, a, b, e1, e2, e3, e4, e5, e6, e7, e8, e9⟩ := h
  refine ⟨w, a, b, e1, e2, e3, e4, ?_, e6, ?_, e8, fun y => ⟨?_, (e9 y).2⟩⟩
  · rw [k.2.1 12 0 (by omega)]; exact e5
  · rw [k.2.1 13 0 (by omega)]; exact e7
  · rw [k.2.1 14 0 (by omega)]; exact (e9 y).1
theorem i_nn (n a : Nat) (ha : a ≤ 99) : (1 : Int32) ≤ nI a ↔ 1 ≤ a := nI_leI (a := 1) (by decide) (by omega)
theorem v_tell {n0 j : Nat} {σ τ : ss_M} {g : pPg} (hL : LAY σ) (hj : j < 25) (hI : itR σ τ j) (hg : j ≠ 0 → cPg σ 1 g ∧ gOk n0 g ∧ g.1.2.2.2.2 = 0) : (okI (sA τ 22 0) j g → ∃ σ', f_X7_tellItem (nI j) σ = some (1, σ') ∧ sp1 σ σ' ∧ cPg σ' 1 (itS (sA τ 22 0) j g) ∧ gOk n0 (itS (sA τ 22 0) j g) ∧ (itS (sA τ 22 0) j g).1.2.2.2.2 = 0) ∧ (¬ okI (sA τ 22 0) j g → f_X7_tellItem (nI j) σ = some (0, σ)) := by
  obtain ⟨w, a, b, e1, e2, e3, e4, e5, e6, e7, e8, e9⟩ := hI
  have e150 : gd (nI j) 150 = true := gd_nI (by omega) (by decide)
  have ej : (nI j).toNatClampNeg = j := nI_clamp (by omega)
  have ea : (nI a).toNatClampNeg = a := nI_clamp (by omega)
  have eb : (nI b).toNatClampNeg = b := nI_clamp (by omega)
  unfold f_X7_tellItem okI itS
  rw [if_pos e150, if_pos e150, if_pos e150, ej, e5, e6, e7, e8, ea]
  match w, e1, e4, e9 with
  | 0, _, e4, e9 =>
    obtain ⟨x1, x2⟩ := e9 (by decide)
    rw [x1, x2, eb, if_pos (show nI (0 + 1) = (1 : Int32) from rfl), if_pos (show nI 0 = (0 : Int32) from rfl), if_pos (show nI 0 = (0 : Int32) from rfl)]
    constructor
    · intro ⟨y1, y2⟩
      obtain ⟨σ', d1, d2, d3, d4, d5⟩ := v_begin 1 a b σ g
      rw [v_br1 y1, ss_bd_e, if_neg n10, v_pr1 y2, ss_bd_e, if_neg n10, d1, Option.bind_some]
      have u1 := (nI_leI (a := 1) (by decide) (by omega)).mp y1.1
      have u2 := (nI_leI (b := 30) (by omega) (by decide)).mp y1.2
      have u3 := (nI_leI (a := 1) (by decide) (by omega)).mp y2.1
      have u4 := (nI_leI (b := 9) (by omega) (by decide)).mp y2.2
      exact ⟨σ', rfl, ⟨d3, fun c o _ => by unfold sA; rw [d5], by unfold sL; rw [d5], by unfold sR; rw [d5]⟩, d2, gNew_ok ⟨u1, u2⟩ ⟨u3, u4⟩, rfl⟩
    · intro y
      by_cases y1 : 1 ≤ nI a ∧ nI a ≤ 30
      · rw [v_br1 y1, ss_bd_e, if_neg n10, v_pr0 (fun z => y ⟨y1, z⟩), ss_bd_e, if_pos rfl]
      · rw [v_br0 y1, ss_bd_e, if_pos rfl]
  | 1, _, e4, e9 =>
    obtain ⟨hc, hk, hu⟩ := hg (fun z => absurd (e4.mpr z) (by decide))
    have h12 := hk.2.2.1
    rw [if_neg (show ¬ nI (1 + 1) = (1 : Int32) by decide), if_pos (show nI (1 + 1) = (2 : Int32) from rfl), if_neg (show ¬ nI 1 = (0 : Int32) by decide), if_pos (show nI 1 = (1 : Int32) from rfl), if_neg (show ¬ nI 1 = (0 : Int32) by decide), if_pos (show nI 1 = (1 : Int32) from rfl)]
    constructor
    · intro ⟨y1, y2⟩
      obtain ⟨σ', d1, d2, d3, d4, d5⟩ := v_add (l := a) (by decide) hk hc y2
      have r : f_X4_hasRoom 1 σ = some (1, σ) := by unfold f_X4_hasRoom; rw [hc.1.2.2.1, if_neg (lnle 12 12 y2)]
      have u1 := (nI_leI (a := 1) (by decide) (by omega)).mp y1.1
      have u2 := (nI_leI (b := 9) (by omega) (by decide)).mp y1.2
      rw [v_ln1 y1, ss_bd_e, if_neg n10, r, ss_bd_e, if_neg n10, d1, Option.bind_some]
      exact ⟨σ', rfl, ⟨fun f o h => d3 f o (by omega), fun c o h => d4 c o (by omega), by unfold sL; rw [d5], by unfold sR; rw [d5]⟩, d2, gAdd_ok hk y2 ⟨u1, u2⟩, rfl⟩
    · intro y
      by_cases y1 : 1 ≤ nI a ∧ nI a ≤ 9
      · have y2 : g.1.2.2.1 = 12 := by
          have : ¬ g.1.2.2.1 < 12 := fun z => y ⟨y1, z⟩
          omega
        have r : f_X4_hasRoom 1 σ = some (0, σ) := by unfold f_X4_hasRoom; rw [hc.1.2.2.1, y2, if_pos (lle 12 12 (i := 12) (by decide) (by decide))]
        rw [v_ln1 y1, ss_bd_e, if_neg n10, r, ss_bd_e, if_pos rfl]
      · rw [v_ln0 y1, ss_bd_e, if_pos rfl]
  | 2, _, e4, e9 =>
    obtain ⟨x1, x2⟩ := e9 (by decide)
    obtain ⟨hc, hk, hu⟩ := hg (fun z => absurd (e4.mpr z) (by decide))
    have h12 := hk.2.2.1
    rw [x1, x2, if_neg (show ¬ nI (2 + 1) = (1 : Int32) by decide), if_neg (show ¬ nI (2 + 1) = (2 : Int32) by decide), if_neg (show ¬ nI 2 = (0 : Int32) by decide), if_neg (show ¬ nI 2 = (1 : Int32) by decide), if_neg (show ¬ nI 2 = (0 : Int32) by decide), if_neg (show ¬ nI 2 = (1 : Int32) by decide)]
    constructor
    · intro ⟨y1, y2⟩
      have a12 : a < 12 := by
        have := (nI_ltI (by omega) (by omega)).mp y1.2
        omega
      rw [v_has1 hc.1.2.2.1 y1, ss_bd_e, if_neg n10, v_one1 y2, ss_bd_e, if_neg n10, v_setMark a12, Option.bind_some]
      have c2 := gZ_c (gSet_c (i := a) (k := nI b) (by decide) hL hk hc)
      rw [gZ_id (g := gSet g a (nI b)) hu] at c2
      refine ⟨_, rfl, ⟨fun f o h => by rw [sG_n _ _ (by omega)]; rfl, fun c o h => ?_, rfl, rfl⟩, c2, gSet_ok hk (kOk_of y2).1, hu⟩
      rw [sA_G, sA_n _ _ (by omega), sA_n _ _ (by omega)]
    · intro y
      by_cases y1 : isP (nI a) g.1.2.2.1
      · rw [v_has1 hc.1.2.2.1 y1, ss_bd_e, if_neg n10, v_one0 (fun z => y ⟨y1, z⟩), ss_bd_e, if_pos rfl]
      · rw [v_has0 hc.1.2.2.1 y1, ss_bd_e, if_pos rfl]
theorem w_tell {n0 j K W n : Nat} {σ τ : ss_M} {g : pPg} (hK : K ≤ 25) (hj : j < K) (h26 : sG τ 26 0 = nI K) (hI : itR σ τ j) (hW : if j = 0 then W = 0 else W = g.1.2.2.1) (hg : j ≠ 0 → gOk n0 g) : (okI (sA τ 22 0) j g → f_X8_refusedItem_L4 (n + 1) (nI W) (nI j) τ = f_X8_refusedItem_L4 n (nI (itS (sA τ 22 0) j g).1.2.2.1) (nI (j + 1)) τ) ∧ (¬ okI (sA τ 22 0) j g → f_X8_refusedItem_L4 (n + 1) (nI W) (nI j) τ = some (nI j, τ)) := by
  obtain ⟨w, a, b, e1, e2, e3, e4, e5, e6, e7, e8, e9⟩ := hI
  have E : ∀ x : Nat, x ≤ 2 → (3 : Int32) * nI j = nI (3 * j) := fun _ _ => nIm 3 j
  have m3 : (3 : Int32) * nI j = nI (3 * j) := nIm 3 j
  have m31 : nI (3 * j) + 1 = nI (3 * j + 1) := nI_add _ 1
  have m32 : nI (3 * j) + 2 = nI (3 * j + 2) := nI_add _ 2
  have ea : (nI a).toNatClampNeg = a := nI_clamp (by omega)
  unfold okI itS
  rw [f_X8_refusedItem_L4, h26, if_neg (lit_nle (by omega) (by omega) hj), m3, m31, m32, if_pos (gd_nI (by omega) (by decide)), if_pos (gd_nI (by omega) (by decide)), if_pos (gd_nI (by omega) (by decide)), nI_clamp (show 3 * j < 2 ^ 31 by omega), nI_clamp (show 3 * j + 1 < 2 ^ 31 by omega), nI_clamp (show 3 * j + 2 < 2 ^ 31 by omega), e6, e8, ea]
  unfold f_X8_refusedItem_j107 f_X8_refusedItem_j85 f_X8_refusedItem_j106 f_X8_refusedItem_j107 f_X8_refusedItem_j128
  match w, e1, e4, e9 with
  | 0, _, e4, e9 =>
    obtain ⟨x1, x2⟩ := e9 (by decide)
    rw [if_pos (e4.mp rfl)] at hW
    rw [x2, if_pos (show nI 0 = (0 : Int32) from rfl), if_pos (show nI 0 = (0 : Int32) from rfl), if_pos (show nI 0 = (0 : Int32) from rfl)]
    unfold f_X8_isPage
    constructor
    · intro ⟨y1, y2⟩
      rw [w_in1 y1, ss_bd_e, if_neg n10, w_in1 y2, ss_bd_e, if_neg n10, ss_bd_e, if_neg n10, if_neg (show ¬ nI 0 = (1 : Int32) by decide), nIa1, Int32.add_zero, hW]
      rfl
    · intro y
      by_cases y1 : 1 ≤ nI a ∧ nI a ≤ 30
      · rw [w_in1 y1, ss_bd_e, if_neg n10, w_in0 (fun z => y ⟨y1, z⟩), ss_bd_e, if_pos rfl, ss_bd_e, if_pos rfl]
      · rw [w_in0 y1, ss_bd_e, if_pos rfl, ss_bd_e, if_pos rfl]
  | 1, _, e4, e9 =>
    have j0 : ¬ j = 0 := fun z => absurd (e4.mpr z) (by decide)
    have h12 := (hg j0).2.2.1
    rw [if_neg j0] at hW
    rw [if_neg (show ¬ nI 1 = (0 : Int32) by decide), if_pos (show nI 1 = (1 : Int32) from rfl), if_neg (show ¬ nI 1 = (0 : Int32) by decide), if_pos (show nI 1 = (1 : Int32) from rfl), if_neg (show ¬ nI 1 = (0 : Int32) by decide), if_pos (show nI 1 = (1 : Int32) from rfl)]
    constructor
    · intro ⟨y1, y2⟩
      rw [w_in1 y1, ss_bd_e, if_neg n10, hW, if_neg (lnle 12 12 y2), if_neg n10, if_pos (show nI 1 = (1 : Int32) from rfl), nIa1, nIa1]
      rfl
    · intro y
      by_cases y1 : 1 ≤ nI a ∧ nI a ≤ 9
      · have y2 : 12 ≤ W := by
          have : ¬ g.1.2.2.1 < 12 := fun z => y ⟨y1, z⟩
          omega
        rw [w_in1 y1, ss_bd_e, if_neg n10, if_pos (show (12 : Int32) ≤ nI W from nI_le (a := 12) y2 (by omega)), if_pos rfl]
      · rw [w_in0 y1, ss_bd_e, if_pos rfl, if_pos rfl]
  | 2, _, e4, e9 =>
    obtain ⟨x1, x2⟩ := e9 (by decide)
    have j0 : ¬ j = 0 := fun z => absurd (e4.mpr z) (by decide)
    have h12 := (hg j0).2.2.1
    rw [if_neg j0] at hW
    rw [x2, if_neg (show ¬ nI 2 = (0 : Int32) by decide), if_neg (show ¬ nI 2 = (1 : Int32) by decide), if_neg (show ¬ nI 2 = (0 : Int32) by decide), if_neg (show ¬ nI 2 = (1 : Int32) by decide), if_neg (show ¬ nI 2 = (0 : Int32) by decide), if_neg (show ¬ nI 2 = (1 : Int32) by decide)]
    constructor
    · intro ⟨y1, y2⟩
      rw [hW, if_neg (Int32.not_le.mpr y1.2), w_kd1 y2, ss_bd_e, if_neg n10, if_neg n10, if_neg (show ¬ nI 2 = (1 : Int32) by decide), nIa1, Int32.add_zero]
      rfl
    · intro y
      by_cases y1 : isP (nI a) g.1.2.2.1
      · rw [hW, if_neg (Int32.not_le.mpr y1.2), w_kd0 (fun z => y ⟨y1, z⟩), ss_bd_e, if_pos rfl, if_pos rfl]
      · have : nI W ≤ nI a := by
          rw [hW]
          exact Int32.not_lt.mp fun z => y1 ⟨nI_pos' (by omega), z⟩
        rw [if_pos this, if_pos rfl]
