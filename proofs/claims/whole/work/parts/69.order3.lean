/-! order: both -/
theorem fo_sh (g : pPg) : ∀ (L : List (List Nat)) (m : Nat) (B : List Nat), L.foldl (st1 g) (m + 1, B) = ((L.foldl (stp g) (m, B)).1 + 1, (L.foldl (stp g) (m, B)).2)
  | [], _, _ => rfl
  | l :: L, m, B => by
    show L.foldl (st1 g) (st1 g (m + 1, B) l) = ((L.foldl (stp g) (stp g (m, B) l)).1 + 1, (L.foldl (stp g) (stp g (m, B) l)).2)
    by_cases z : m < rdB g l
    · have e1 : st1 g (m + 1, B) l = (rdB g l + 1, l) := if_pos (show m + 1 < rdB g l + 1 by omega)
      have e2 : stp g (m, B) l = (rdB g l, l) := if_pos z
      rw [e1, e2]
      exact fo_sh g L _ _
    · have e1 : st1 g (m + 1, B) l = (m + 1, B) := if_neg (show ¬ m + 1 < rdB g l + 1 by omega)
      have e2 : stp g (m, B) l = (m, B) := if_neg z
      rw [e1, e2]
      exact fo_sh g L _ _
theorem fo_both (g : pPg) (l : List Nat) (L : List (List Nat)) (B : List Nat) : (l :: L).foldl (st1 g) (0, B) = (((l :: L).foldl (stp g) (0, l)).1 + 1, ((l :: L).foldl (stp g) (0, l)).2) := by
  show L.foldl (st1 g) (st1 g (0, B) l) = ((L.foldl (stp g) (stp g (0, l) l)).1 + 1, (L.foldl (stp g) (stp g (0, l) l)).2)
  have e1 : st1 g (0, B) l = (rdB g l + 1, l) := if_pos (show 0 < rdB g l + 1 by omega)
  have e2 : stp g (0, l) l = (rdB g l, l) := by
    unfold stp
    by_cases z : 0 < rdB g l
    · rw [if_pos z]
    · rw [if_neg z]
      have : rdB g l = 0 := by omega
      rw [this]
  rw [e1, e2]
  exact fo_sh g L _ _
theorem v_si7 (k : ss_M → Option ss_M) : ∀ m i : Nat, i + m = 7 → ∀ (σ : ss_M) (n : Nat), m < n → LAY σ → (∀ j, j < i → sA σ 2 0 j = nI j ∧ sA σ 100 0 j = 0) → ∃ σ', f_X3_search_L7 k n (nI i) σ = k σ' ∧ QC σ σ' ∧ sG σ' 2 0 = sG σ 2 0 ∧ ∀ j, j < 7 → sA σ' 2 0 j = nI j ∧ sA σ' 100 0 j = 0 := by
  intro m
  induction m with
  | zero =>
    intro i hi σ n hn hL hd
    obtain ⟨n', rfl⟩ : ∃ n', n = n' + 1 := ⟨n - 1, by omega⟩
    refine ⟨σ, ?_, QC.rf hL, rfl, fun j hj => hd j (by omega)⟩
    rw [f_X3_search_L7, if_pos (show (7 : Int32) ≤ nI i from nI_le (a := 7) (by omega) (by omega))]
  | succ m ih =>
    intro i hi σ n hn hL hd
    obtain ⟨n', rfl⟩ : ∃ n', n = n' + 1 := ⟨n - 1, by omega⟩
    have e7 : gd (nI i) 7 = true := gd_nI (by omega) (by decide)
    obtain ⟨σ0, hσ0⟩ : ∃ σ0, σ0 = sAu σ 2 0 (upd (sA σ 2 0) i (nI i)) := ⟨_, rfl⟩
    obtain ⟨σ1, hσ1⟩ : ∃ σ1, σ1 = sAu σ0 100 0 (upd (sA σ0 100 0) i 0) := ⟨_, rfl⟩
    have q0 : QC σ σ0 := by rw [hσ0]; exact QC_a hL (by omega)
    have q1 : QC σ σ1 := by rw [hσ1]; exact q0.tr (QC_a q0.1.1 (by omega))
    obtain ⟨σ', d1, d2, d3, d4⟩ := ih (i + 1) (by omega) σ1 n' (by omega) q1.1.1 (fun j hj => by
      by_cases z : j = i
      · rw [z]
        refine ⟨?_, ?_⟩
        · rw [hσ1, sA_n _ _ (by omega), hσ0, sA_m, upd_m]
        · rw [hσ1, sA_m, upd_m]
      · obtain ⟨x, y⟩ := hd j (by omega)
        refine ⟨?_, ?_⟩
        · rw [hσ1, sA_n _ _ (by omega), hσ0, sA_m, upd_n z]; exact x
        · rw [hσ1, sA_m, upd_n z, hσ0, sA_n _ _ (by omega)]; exact y)
    refine ⟨σ', ?_, q1.tr d2, d3.trans (by rw [hσ1, hσ0]; rfl), d4⟩
    rw [f_X3_search_L7, if_neg (show ¬ (7 : Int32) ≤ nI i from lit_nle (a := 7) (by decide) (by omega) (by omega)), if_pos e7, if_pos e7, nI_clamp (show i < 2 ^ 31 by omega), ← hσ0, ← hσ1, ss_let, nIa1]
    exact d1
theorem v_search {n0 : Nat} {g : pPg} {σ : ss_M} (hg : gOk n0 g) (hw : g.1.2.2.1 ≤ 7) (hL : LAY σ) (hc : cPg σ 0 g) : ∃ σ', f_X3_search 0 σ = some σ' ∧ QC σ σ' ∧ sG σ' 2 0 = nI ((cm g.1.2.2.1 g.1.2.2.1 []).foldl (stp g) (0, fu [] g.1.2.2.1 0)).1 ∧ rw28 g.1.2.2.1 ((cm g.1.2.2.1 g.1.2.2.1 []).foldl (stp g) (0, fu [] g.1.2.2.1 0)).2 (sA σ' 2 0) := by
  have hB := hg.1.2
  have q0 : QC σ (sGu σ 2 0 0) := QC_s hL (Or.inl rfl)
  obtain ⟨σ1, d1, d2, d3, d4⟩ := v_si7 (f_X3_search_j33 0) 7 0 rfl (sGu σ 2 0 0) FU (FU_gt (by decide)) q0.1.1 (fun j hj => by omega)
  have qc := q0.tr d2
  have hc1 := hc.same hL (by decide) hg qc.2
  have S : oS g [] σ1 0 (fu [] g.1.2.2.1 0) := by
    refine ⟨qc.1.1, hc1, by rw [d3, sG_m]; rfl, fun i hi => ?_, fun i hi => ?_, fun i hi => absurd hi (Nat.not_lt_zero _)⟩
    · rw [fu_gt _ _ _ hi, Nat.zero_add]
      exact (d4 i (by omega)).1
    · exact (d4 i (by omega)).2
  obtain ⟨σ', e1, e2, e3⟩ := v_ext hg hw g.1.2.2.1 10 (by omega) [] g.1.1 (by show 0 + _ = _; omega) (fu_0 _ _) (fun r => rfl) (Nat.le_refl _) σ1 0 (fu [] g.1.2.2.1 0) S (by omega)
  refine ⟨σ', ?_, qc.tr e2, e3.2.2.1, e3.2.2.2.1⟩
  unfold f_X3_search
  refine Eq.trans d1 ?_
  unfold f_X3_search_j33
  have e1' : f_X3_extend 10 0 0 (nI g.1.1) σ1 = some σ' := e1
  rw [hc1.1.1, e1', Option.bind_some]
theorem w_si37 {w : Nat} (k : ss_M → Option (Int32 × ss_M)) (hw : w ≤ 7) : ∀ m i : Nat, i + m = w → ∀ (τ : ss_M) (n : Nat), m < n → sG τ 17 0 = nI w → (∀ j, j < i → sA τ 28 0 j = nI j) → ∃ τ', f_X8_order_L37 k n (nI i) τ = k τ' ∧ QM τ τ' ∧ ∀ j, j < w → sA τ' 28 0 j = nI j := by
  intro m
  induction m with
  | zero =>
    intro i hi τ n hn h17 hd
    obtain ⟨n', rfl⟩ : ∃ n', n = n' + 1 := ⟨n - 1, by omega⟩
    refine ⟨τ, ?_, QM.rf, fun j hj => hd j (by omega)⟩
    rw [f_X8_order_L37, h17, if_pos (nI_le (by omega) (by omega))]
  | succ m ih =>
    intro i hi τ n hn h17 hd
    obtain ⟨n', rfl⟩ : ∃ n', n = n' + 1 := ⟨n - 1, by omega⟩
    obtain ⟨τ1, hτ1⟩ : ∃ τ1, τ1 = sAu τ 28 0 (upd (sA τ 28 0) i (nI i)) := ⟨_, rfl⟩
    have q1 : QM τ τ1 := by rw [hτ1]; exact QM_a (by omega)
    obtain ⟨τ', d1, d2, d3⟩ := ih (i + 1) (by omega) τ1 n' (by omega) (by rw [hτ1]; exact h17) (fun j hj => by
      rw [hτ1, sA_m]
      by_cases z : j = i
      · rw [z, upd_m]
      · rw [upd_n z]; exact hd j (by omega))
    refine ⟨τ', ?_, q1.tr d2, d3⟩
    rw [f_X8_order_L37, h17, if_neg (lit_nle (by omega) (by omega) (by omega)), if_pos (gd_nI (by omega) (by decide)), nI_clamp (show i < 2 ^ 31 by omega), ← hτ1, nIa1]
    exact d1
theorem cm_len_7 : (cm 7 7 []).length ≤ 6000 := by decide +kernel
theorem cm_len {w : Nat} (h : w ≤ 7) : (cm w w []).length ≤ 6000 := by
  match w, h with
  | 0, _ => decide +kernel
  | 1, _ => decide +kernel
  | 2, _ => decide +kernel
  | 3, _ => decide +kernel
  | 4, _ => decide +kernel
  | 5, _ => decide +kernel
  | 6, _ => decide +kernel
  | 7, _ => exact cm_len_7
theorem w_search {n0 : Nat} {g : pPg} {τ : ss_M} (p0 : Int32) (hg : gOk n0 g) (hw : g.1.2.2.1 ≤ 7) (hm : mPg τ g) : ∃ τ', f_X8_order_L37 (f_X8_order_j58 p0) FU 0 τ = f_X8_order_j125 p0 (nI ((cm g.1.2.2.1 g.1.2.2.1 []).foldl (stp g) (0, fu [] g.1.2.2.1 0)).1) τ' ∧ QM τ τ' ∧ rw28 g.1.2.2.1 ((cm g.1.2.2.1 g.1.2.2.1 []).foldl (stp g) (0, fu [] g.1.2.2.1 0)).2 (sA τ' 29 0) := by
  obtain ⟨τ1, d1, d2, d3⟩ := w_si37 (f_X8_order_j58 p0) hw g.1.2.2.1 0 (Nat.zero_add _) τ FU (FU_gt (by omega)) hm.1.2.2.1 (fun j hj => by omega)
  obtain ⟨tl, h⟩ := cm_head g.1.2.2.1 g.1.2.2.1 [] (fu_0 _ _)
  have hlen := cm_len hw
  have hchk := chk_all hw
  rw [h] at hlen hchk
  have hl' : tl.length + 1 ≤ 6000 := hlen
  obtain ⟨τ2, e1, e2, e3⟩ := w_or62 (f_X8_order_j125 p0) hg hw tl ([] ++ fu [] g.1.2.2.1 0) hchk τ1 0 [] FU (FU_gt (by omega)) (by omega) (hm.same d2.2) (fun i hi => by
    rw [List.nil_append, fu_gt _ _ _ hi, Nat.zero_add]
    exact d3 i hi) (Or.inl rfl)
  rw [fo_both] at e1 e3
  have el : [] ++ fu [] g.1.2.2.1 0 = fu [] g.1.2.2.1 0 := List.nil_append _
  rw [el] at e1 e3 h
  rw [h]
  refine ⟨τ2, ?_, d2.tr e2, e3⟩
  have d1' : f_X8_order_L37 (f_X8_order_j58 p0) FU 0 τ = f_X8_order_j58 p0 τ1 := d1
  rw [d1']
  unfold f_X8_order_j58
  have e1' := e1
  rw [ox_s] at e1'
  exact e1'
theorem sim_order {n : Nat} {σ τ : ss_M} (H : Cpl n σ τ) (p0 : Int32) : simI n (f_X7_order p0 σ) (f_X8_order p0 τ) := by
  obtain ⟨g, hg, hc, hm⟩ := H.2.1
  have h12 := hg.2.2.1
  unfold f_X7_order f_X8_order
  rw [hc.1.2.2.1, hm.1.2.2.1]
  by_cases hp : (-1 : Int32) ≤ p0
  · rw [if_pos hp, if_pos hp]
    by_cases h7 : g.1.2.2.1 ≤ 7
    · have e7 : nI g.1.2.2.1 ≤ (7 : Int32) := nI_le (b := 7) h7 (by decide)
      rw [if_pos e7, if_pos e7]
      by_cases hlt : p0 < nI g.1.2.2.1
      · rw [if_pos hlt, if_pos hlt]
        obtain ⟨σ1, a1, a2, a3, a4⟩ := v_search hg h7 H.1 hc
        obtain ⟨τ1, b1, b2, b3⟩ := w_search p0 hg h7 hm
        rw [a1, Option.bind_some, b1]
        unfold f_X8_order_j125
        by_cases hz : p0 = -1
        · rw [if_pos hz, if_pos hz, a3]
          exact ⟨_, _, _, rfl, rfl, H.q a2 b2⟩
        · have q0 : 0 ≤ p0 := by
            have e1 := i_le.mp hp
            have e2 : (-1 : Int32).toInt = -1 := by decide
            have e3 : p0.toInt ≠ -1 := fun z => hz (i_eq.mpr (by rw [z, e2]))
            have e4 : (0 : Int32).toInt = 0 := by decide
            exact i_le.mpr (by omega)
          obtain ⟨i, hi, rfl⟩ := isP_nI h12 ⟨q0, hlt⟩
          have g7 : gd (nI i) 7 = true := gd_nI (by omega) (by decide)
          rw [if_neg hz, if_neg hz, if_pos g7, if_pos g7, nI_clamp (show i < 2 ^ 31 by omega), a4 i hi, b3 i hi]
          exact ⟨_, _, _, rfl, rfl, H.q a2 b2⟩
      · rw [if_neg hlt, if_neg hlt]
        exact ⟨_, _, _, rfl, rfl, H.q (QC.rf H.1) QM.rf⟩
    · have e7 : ¬ nI g.1.2.2.1 ≤ (7 : Int32) := lit_nle (i := 7) (by omega) (by decide) (by omega)
      rw [if_neg e7, if_neg e7, v_no, w_twenty, ss_bd_e, ss_bd_e]
      exact ⟨_, _, _, rfl, rfl, R_no H⟩
  · rw [if_neg hp, if_neg hp, v_bad, w_ten, ss_bd_e, ss_bd_e]
    exact ⟨_, _, _, rfl, rfl, R_bad H⟩
