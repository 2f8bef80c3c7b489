/-! read: told, refused, and the call -/
def itF (r : Nat → Int32) (g : pPg) : Nat → pPg
  | 0 => g
  | j + 1 => itS r j (itF r g j)
theorem tl_L {n0 K : Nat} {τ : ss_M} {g0 : pPg} (kA : ss_M → Option (Int32 × ss_M)) (kB : Int32 → ss_M → Option (Int32 × ss_M)) (hK : K ≤ 25) (h26 : sG τ 26 0 = nI K) : ∀ m j : Nat, j + m = K → ∀ (σ : ss_M) (W n1 n2 : Nat), m < n1 → m < n2 → LAY σ → sG σ 9 0 = nI K → (∀ i, i < K → itR σ τ i) → (j ≠ 0 → cPg σ 1 (itF (sA τ 22 0) g0 j) ∧ gOk n0 (itF (sA τ 22 0) g0 j) ∧ (itF (sA τ 22 0) g0 j).1.2.2.2.2 = 0) → (if j = 0 then W = 0 else W = (itF (sA τ 22 0) g0 j).1.2.2.1) → (∃ σ', QC σ σ' ∧ sG σ' 9 0 = nI K ∧ f_X7_read_L20 kA kB n1 (nI j) σ = kA σ' ∧ f_X8_refusedItem_L4 n2 (nI W) (nI j) τ = some (-1, τ) ∧ (K ≠ 0 → cPg σ' 1 (itF (sA τ 22 0) g0 K) ∧ gOk n0 (itF (sA τ 22 0) g0 K)) ∧ ∀ i, j ≤ i → i < K → okI (sA τ 22 0) i (itF (sA τ 22 0) g0 i) ∧ (i ≠ 0 → gOk n0 (itF (sA τ 22 0) g0 i))) ∨ ∃ σ' i, i ≤ 25 ∧ QC σ σ' ∧ f_X7_read_L20 kA kB n1 (nI j) σ = kB (nI i) σ' ∧ f_X8_refusedItem_L4 n2 (nI W) (nI j) τ = some (nI i, τ) := by
  intro m
  induction m with
  | zero =>
    intro j hj σ W n1 n2 h1 h2 hL h9 hI hg hW
    obtain ⟨n1', rfl⟩ : ∃ n', n1 = n' + 1 := ⟨n1 - 1, by omega⟩
    obtain ⟨n2', rfl⟩ : ∃ n', n2 = n' + 1 := ⟨n2 - 1, by omega⟩
    have hjK : j = K := by omega
    refine Or.inl ⟨σ, QC.rf hL, h9, ?_, ?_, fun z => ?_, fun i h1 h2 => by omega⟩
    · rw [f_X7_read_L20, h9, if_pos (nI_le (by omega) (by omega))]
    · rw [f_X8_refusedItem_L4, h26, if_pos (nI_le (by omega) (by omega))]
    · rw [← hjK] at z ⊢
      exact ⟨(hg z).1, (hg z).2.1⟩
  | succ m ih =>
    intro j hj σ W n1 n2 h1 h2 hL h9 hI hg hW
    obtain ⟨n1', rfl⟩ : ∃ n', n1 = n' + 1 := ⟨n1 - 1, by omega⟩
    obtain ⟨n2', rfl⟩ : ∃ n', n2 = n' + 1 := ⟨n2 - 1, by omega⟩
    have hjK : j < K := by omega
    obtain ⟨v1, v2⟩ := v_tell hL (show j < 25 by omega) (hI j hjK) hg
    obtain ⟨w1, w2⟩ := w_tell (n := n2') hK hjK h26 (hI j hjK) hW (fun z => (hg z).2.1)
    by_cases ok : okI (sA τ 22 0) j (itF (sA τ 22 0) g0 j)
    · obtain ⟨σ1, a1, a2, a3, a4, a5⟩ := v1 ok
      have w1' := w1 ok
      have qc := a2.q hL
      have E1 : f_X7_read_L20 kA kB (n1' + 1) (nI j) σ = f_X7_read_L20 kA kB n1' (nI (j + 1)) σ1 := by
        rw [f_X7_read_L20, h9, if_neg (lit_nle (by omega) (by omega) hjK), a1, ss_bd_e, if_neg n10, nIa1]
      rw [E1, w1']
      have r := ih (j + 1) (by omega) σ1 (itS (sA τ 22 0) j (itF (sA τ 22 0) g0 j)).1.2.2.1 n1' n2' (by omega) (by omega) qc.1.1 ((a2.1 9 0 (by omega)).trans h9) (fun i hi => (hI i hi).sp a2) (fun _ => ⟨a3, a4, a5⟩) (by rw [if_neg (by omega)]; rfl)
      rcases r with ⟨σ', b1, b2, b3, b4, b5, b6⟩ | ⟨σ', i, b0, b1, b2, b3⟩
      · refine Or.inl ⟨σ', qc.tr b1, b2, b3, b4, b5, fun i h1 h2 => ?_⟩
        by_cases z : i = j
        · rw [z]; exact ⟨ok, fun y => (hg y).2.1⟩
        · exact b6 i (by omega) h2
      · exact Or.inr ⟨σ', i, b0, qc.tr b1, b2, b3⟩
    · refine Or.inr ⟨σ, j, by omega, QC.rf hL, ?_, w2 ok⟩
      rw [f_X7_read_L20, h9, if_neg (lit_nle (by omega) (by omega) hjK), v2 ok, ss_bd_e, if_pos rfl]
theorem mk_rw {n0 K : Nat} {r : Nat → Int32} {g0 : pPg} (k : ss_M → Option (Int32 × ss_M)) (hK : K ≤ 25) : ∀ m j : Nat, j + m = K → 1 ≤ j → ∀ (τ : ss_M) (n : Nat), m < n → sG τ 26 0 = nI K → sA τ 22 0 = r → mPg τ (itF r g0 j) → (∀ i, i < K → ∃ w a b : Nat, w ≤ 2 ∧ a ≤ 99 ∧ b ≤ 99 ∧ (w = 0 ↔ i = 0) ∧ r (3 * i) = nI w ∧ r (3 * i + 1) = nI a) → (∀ i, j ≤ i → i < K → okI r i (itF r g0 i) ∧ gOk n0 (itF r g0 i)) → ∃ τ', f_X8_read_L49 k n (nI j) τ = k τ' ∧ eM τ τ' ∧ sG τ' 26 0 = nI K ∧ mPg τ' (itF r g0 K) := by
  intro m
  induction m with
  | zero =>
    intro j hj h1 τ n hn h26 h22 hm hI hO
    obtain ⟨n', rfl⟩ : ∃ n', n = n' + 1 := ⟨n - 1, by omega⟩
    have hjK : j = K := by omega
    refine ⟨τ, ?_, eM.rf, h26, hjK ▸ hm⟩
    rw [f_X8_read_L49, h26, if_pos (nI_le (by omega) (by omega))]
  | succ m ih =>
    intro j hj h1 τ n hn h26 h22 hm hI hO
    obtain ⟨n', rfl⟩ : ∃ n', n = n' + 1 := ⟨n - 1, by omega⟩
    have hjK : j < K := by omega
    obtain ⟨w, a, b, e1, e2, e3, e4, e5, e6⟩ := hI j hjK
    obtain ⟨ok, hg⟩ := hO j (Nat.le_refl _) hjK
    have h12 := hg.2.2.1
    have w0 : w ≠ 0 := fun z => by have := e4.mp z; omega
    have m3 : (3 : Int32) * nI j = nI (3 * j) := nIm 3 j
    have m31 : nI (3 * j) + 1 = nI (3 * j + 1) := nI_add _ 1
    have m32 : nI (3 * j) + 2 = nI (3 * j + 2) := nI_add _ 2
    have n0' : ¬ nI w = (0 : Int32) := fun y => w0 ((nI_eq (b := 0) (by omega) (by decide)).mp y)
    rw [f_X8_read_L49, h26, if_neg (lit_nle (by omega) (by omega) hjK), m3, m31, m32, if_pos (gd_nI (by omega) (by decide)), nI_clamp (show 3 * j < 2 ^ 31 by omega), nI_clamp (show 3 * j + 1 < 2 ^ 31 by omega), nI_clamp (show 3 * j + 2 < 2 ^ 31 by omega), h22, e5, e6]
    unfold okI at ok
    rw [e5, if_neg n0', e6] at ok
    have nxt : itF r g0 (j + 1) = if nI w = 1 then gAdd (itF r g0 j) a else gSet (itF r g0 j) a (r (3 * j + 2)) := by
      show itS r j (itF r g0 j) = _
      unfold itS
      rw [e5, if_neg n0', e6, nI_clamp (show a < 2 ^ 31 by omega)]
    by_cases z : nI w = (1 : Int32)
    · rw [if_pos z] at ok nxt
      obtain ⟨τ1, d1, d2, d3, d4, d5⟩ := w_add (l := a) hg hm ok.2
      rw [if_pos z, if_pos (gd_nI (by omega) (by decide)), d1, ss_bd_e]
      unfold f_X8_read_j111
      rw [nIa1]
      obtain ⟨τ', c1, c2, c3⟩ := ih (j + 1) (by omega) (by omega) τ1 n' (by omega) ((d4 26 0 (by decide) (by decide)).trans h26) ((d5 22 0 (by decide) (by decide) (by decide)).trans h22) (by rw [nxt]; exact d2) hI (fun i h1 h2 => hO i (by omega) h2)
      exact ⟨τ', c1, d3.tr c2, c3⟩
    · rw [if_neg z] at ok nxt
      have a12 : a < 12 := by
        have := (nI_ltI (by omega) (by omega)).mp ok.1.2
        omega
      rw [if_neg z, if_pos (gd_nI (by omega) (by decide)), if_pos (gd_nI (by omega) (by decide)), w_mark a12, Option.bind_some]
      unfold f_X8_read_j111
      rw [nIa1]
      obtain ⟨τ', c1, c2, c3⟩ := ih (j + 1) (by omega) (by omega) _ n' (by omega) (show sG (sAu (sAu τ 18 0 (upd (sA τ 18 0) a (r (3 * j + 2)))) 19 0 (upd (sA τ 19 0) a 0)) 26 0 = nI K from h26) (by rw [sA_n _ _ (by omega), sA_n _ _ (by omega)]; exact h22) (by rw [nxt]; exact gSet_m hm) hI (fun i h1 h2 => hO i (by omega) h2)
      exact ⟨τ', c1, (eM_mark τ a _).tr c2, c3⟩
theorem sim_read {n : Nat} {σ τ : ss_M} (H : Cpl n σ τ) : simI n (f_X7_read σ) (f_X8_read τ) := by
  obtain ⟨T, t1, t2, t3, t4⟩ := H.2.2.1
  obtain ⟨g, hg, hc, hm⟩ := H.2.1
  obtain ⟨σ1, τ1, qc, qm, R⟩ := parse (t := sA σ 11 0) (T := T) t1 H.1 ⟨t2, fun _ _ => rfl⟩ ⟨t3, fun j hj => (t4 j hj).symm⟩
  unfold f_X7_read f_X8_read
  rcases R with ⟨K, k1, k2, e1, e2, e3, e4, e5⟩ | ⟨P, p1, e1, e2, e3⟩
  · rw [e1, e2, ss_bd_e, ss_bd_e, if_pos rfl, if_neg n10]
    unfold f_X8_refusedItem
    obtain ⟨r, hr⟩ : ∃ r, r = sA τ1 22 0 := ⟨_, rfl⟩
    have L := tl_L (n0 := n + 1) (g0 := g) f_X7_read_j51 f_X7_read_j39 k2 e4 K 0 (Nat.zero_add _) σ1 0 FU FU (FU_gt (by omega)) (FU_gt (by omega)) qc.1.1 e3 e5 (fun z => absurd rfl z) (by rw [if_pos rfl])
    rw [← hr] at L
    rcases L with ⟨σ2, a1, a2, a3, a4, a5, a6⟩ | ⟨σ2, i, a0, a1, a2, a3⟩
    · have a3' : f_X7_read_L20 f_X7_read_j51 f_X7_read_j39 FU 0 σ1 = f_X7_read_j51 σ2 := a3
      have a4' : f_X8_refusedItem_L4 FU 0 0 τ1 = some (-1, τ1) := a4
      rw [a3', a4', ss_bd_e, if_pos rfl, if_pos (by decide), if_pos (by decide)]
      obtain ⟨w, a, b, f1, f2, f3, f4, f5, f6, f7, f8, f9⟩ := e5 0 (by omega)
      have fw : w = 0 := f4.mpr rfl
      obtain ⟨f10, f11⟩ := f9 (by omega)
      have i0 : sA τ1 22 0 (3 * 0) = 0 := by rw [f6, fw]; rfl
      have g1 : itF r g 1 = gNew g a b := by
        show itS r 0 g = _
        unfold itS
        rw [hr, if_pos i0, f8, f11, nI_clamp (by omega), nI_clamp (by omega)]
      have i1 : sA τ1 22 0 (1 : Int32).toNatClampNeg = nI a := f8
      have i2 : sA τ1 22 0 (2 : Int32).toNatClampNeg = nI b := f11
      obtain ⟨τ2, b1, b2, b3, b4, b5⟩ := w_begin a b τ1 g
      rw [i1, i2, b1, Option.bind_some]
      have r2 : sA τ2 22 0 = r := by
        rw [hr]
        unfold sA
        rw [b5]
      obtain ⟨τ3, c1, c2, c3, c4⟩ := mk_rw (n0 := n + 1) (g0 := g) f_X8_read_j117 k2 (K - 1) 1 (by omega) (Nat.le_refl _) τ2 FU (FU_gt (by omega)) ((b4 26 0 (by decide) (by decide) (by decide) (by decide) (by decide) (by decide) (by decide)).trans e4) r2 (by rw [g1]; exact b2) (fun i hi => by
        obtain ⟨w, a, b, f1, f2, f3, f4, f5, f6, f7, f8, f9⟩ := e5 i hi
        exact ⟨w, a, b, f1, f2, f3, f4, by rw [hr]; exact f6, by rw [hr]; exact f8⟩) (fun i h1 h2 => ⟨(a6 i (by omega) h2).1, (a6 i (by omega) h2).2 (by omega)⟩)
      have c1' : f_X8_read_L49 f_X8_read_j117 FU 1 τ2 = f_X8_read_j117 τ3 := c1
      rw [c1']
      obtain ⟨q1, q2⟩ := a5 (by omega)
      obtain ⟨σ3, d1, d2, d3⟩ := v_pcopy (o := 0) (o0 := 1) (by omega) (by omega) (by omega) a1.1.1 q2 q1
      have eC3 : eC σ2 σ3 := ⟨frO_LAY d2 a1.1.1, fun p h1 h2 => d2.pg (by omega) h2 (by omega), ⟨d2.1 8 0 (by omega), d2.2.1 11 0 (by omega)⟩, ⟨by rw [d2.2.2.1], by rw [d2.2.2.1]⟩, ⟨d2.1 14 0 (by omega), d2.1 15 0 (by omega), d2.1 16 0 (by omega)⟩, d2.2.1 101 0 (by omega)⟩
      refine ⟨nI K, σ3, τ3, ?_, ?_, H.pg ((qc.1.tr a1.1).tr eC3) ((qm.1.tr b3).tr c2) ⟨itF r g K, q2, d3, c4⟩⟩
      · unfold f_X7_read_j51
        rw [d1, Option.bind_some, d2.1 9 0 (by omega), a2]
      · unfold f_X8_read_j117
        rw [c3]
    · have a2' : f_X7_read_L20 f_X7_read_j51 f_X7_read_j39 FU 0 σ1 = f_X7_read_j39 (nI i) σ2 := a2
      have a3' : f_X8_refusedItem_L4 FU 0 0 τ1 = some (nI i, τ1) := a3
      rw [a2', a3', ss_bd_e, if_neg (nm1 (by omega))]
      exact ⟨_, σ2, τ1, rfl, rfl, H.q (qc.tr a1) qm⟩
  · rw [e1, e2, ss_bd_e, ss_bd_e, if_neg (nm1 (by omega)), if_pos rfl, e3]
    exact ⟨_, σ1, τ1, rfl, rfl, H.q qc qm⟩
