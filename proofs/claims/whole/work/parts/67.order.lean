/-! order: the reference -/
theorem bcond {α : Type} (a b : Nat) (x y : α) : (bif Nat.ble a b then x else y) = if a ≤ b then x else y := by
  by_cases h : a ≤ b
  · rw [if_pos h, Nat.ble_eq.mpr h]
    rfl
  · rw [if_neg h]
    cases e : Nat.ble a b
    · rfl
    · exact absurd (Nat.ble_eq.mp e) h
theorem st_len : ∀ (l : List Nat) (i x : Nat), (st l i x).length = l.length
  | [], _, _ => rfl
  | _ :: _, 0, _ => rfl
  | _ :: l, i + 1, x => congrArg (· + 1) (st_len l i x)
theorem gt_st_m : ∀ (l : List Nat) (i x : Nat), i < l.length → gt (st l i x) i = x
  | [], _, _, h => absurd h (Nat.not_lt_zero _)
  | _ :: _, 0, _, _ => rfl
  | _ :: l, i + 1, x, h => gt_st_m l i x (Nat.lt_of_succ_lt_succ h)
theorem gt_st_n : ∀ (l : List Nat) (i j x : Nat), j ≠ i → gt (st l i x) j = gt l j
  | [], _, _, _, _ => rfl
  | _ :: _, 0, 0, _, h => absurd rfl h
  | _ :: _, 0, _ + 1, _, _ => rfl
  | _ :: _, _ + 1, 0, _, _ => rfl
  | _ :: l, i + 1, j + 1, x, h => gt_st_n l i j x (fun z => h (congrArg (· + 1) z))
theorem gt_1 : ∀ (a b : List Nat) (i : Nat), i < a.length → gt (a ++ b) i = gt a i
  | [], _, _, h => absurd h (Nat.not_lt_zero _)
  | _ :: _, _, 0, _ => rfl
  | _ :: a, b, i + 1, h => gt_1 a b i (Nat.lt_of_succ_lt_succ h)
theorem gt_2 : ∀ (a b : List Nat) (i : Nat), gt (a ++ b) (a.length + i) = gt b i
  | [], b, i => by rw [List.nil_append]; show gt b (0 + i) = _; rw [Nat.zero_add]
  | x :: a, b, i => by
    have : (x :: a).length + i = (a.length + i) + 1 := by
      show a.length + 1 + i = _
      omega
    rw [this]
    exact gt_2 a b i
theorem swp_len (l : List Nat) (i j : Nat) : (swp l i j).length = l.length := by unfold swp; rw [st_len, st_len]
/-- a row of the reference that holds a line -/
def rw28 (w : Nat) (l : List Nat) (r : Nat → Int32) : Prop := ∀ i, i < w → r i = nI (gt l i)
theorem rw_swp {w i j : Nat} {l : List Nat} {r : Nat → Int32} (h : rw28 w l r) (hl : l.length = w) (hi : i < w) (hj : j < w) : rw28 w (swp l i j) (upd (upd r i (r j)) j (r i)) := by
  intro x hx
  unfold swp
  by_cases e : x = j
  · rw [e, upd_m, gt_st_m _ _ _ (by rw [st_len]; omega)]
    exact h i hi
  · rw [upd_n e, gt_st_n _ _ _ _ e]
    by_cases e2 : x = i
    · rw [e2, upd_m, gt_st_m _ _ _ (by omega)]
      exact h j hj
    · rw [upd_n e2, gt_st_n _ _ _ _ e2]
      exact h x hx
theorem smL_gt {w : Nat} : ∀ (l : List Nat) (i : Nat), smL w l = true → i < l.length → gt l i < w
  | [], _, _, h => absurd h (Nat.not_lt_zero _)
  | a :: l, 0, h, _ => by
    have : (Nat.ble (a + 1) w && smL w l) = true := h
    rw [Bool.and_eq_true] at this
    exact Nat.ble_eq.mp this.1
  | a :: l, i + 1, h, hi => by
    have : (Nat.ble (a + 1) w && smL w l) = true := h
    rw [Bool.and_eq_true] at this
    exact smL_gt l i this.2 (Nat.lt_of_succ_lt_succ hi)
theorem okL_1 {w : Nat} {l : List Nat} (h : okL w l = true) : l.length = w ∧ ∀ i, i < w → gt l i < w := by
  unfold okL at h
  rw [Bool.and_eq_true] at h
  have e := Nat.eq_of_beq_eq_true h.1
  exact ⟨e, fun i hi => smL_gt l i h.2 (by omega)⟩
theorem eqL_1 : ∀ (l m : List Nat), eqL l m = true → l = m
  | [], [], _ => rfl
  | [], _ :: _, h => absurd h (by simp [eqL])
  | _ :: _, [], h => absurd h (by simp [eqL])
  | a :: l, b :: m, h => by
    have : (Nat.beq a b && eqL l m) = true := h
    rw [Bool.and_eq_true] at this
    rw [Nat.eq_of_beq_eq_true this.1, eqL_1 l m this.2]
theorem ox_d (K : Nat) : ox (K + 1) + -1 = ox K := by
  cases K with
  | zero => rfl
  | succ K =>
    rw [ox_s, ox_s, ← Int32.sub_eq_add_neg]
    exact nIs (a := K + 1) (b := 1) (by omega)
theorem nxK_le (l : List Nat) : ∀ K, nxK l K ≤ K
  | 0 => Nat.le_refl _
  | K + 1 => by
    show (bif Nat.ble (gt l K) (gt l (K + 1)) then K + 1 else nxK l K) ≤ K + 1
    rw [bcond]
    split
    · exact Nat.le_refl _
    · exact Nat.le_trans (nxK_le l K) (Nat.le_succ K)
theorem w_nx7 {w : Nat} {l : List Nat} {τ : ss_M} (k : Int32 → ss_M → Option (Int32 × ss_M)) (hw : w ≤ 7) (hr : rw28 w l (sA τ 28 0)) (hs : ∀ i, i < w → gt l i < w) : ∀ K, K < w → ∀ n, K < n → f_X8_nextLine_L7 k n (ox K) τ = k (ox (nxK l K)) τ := by
  intro K
  induction K with
  | zero =>
    intro hK n hn
    obtain ⟨n', rfl⟩ : ∃ n', n = n' + 1 := ⟨n - 1, by omega⟩
    rw [f_X8_nextLine_L7, if_pos (show ox 0 < 0 by decide)]
    rfl
  | succ K ih =>
    intro hK n hn
    obtain ⟨n', rfl⟩ : ∃ n', n = n' + 1 := ⟨n - 1, by omega⟩
    have h1 := hs K (by omega)
    have h2 := hs (K + 1) hK
    have e1 : nxK l (K + 1) = if gt l K ≤ gt l (K + 1) then K + 1 else nxK l K := bcond _ _ _ _
    rw [f_X8_nextLine_L7, e1, ox_d, ox_s, if_neg (nI_pos (by omega)), if_pos (gd_nI (by omega) (by decide)), nIa1, if_pos (gd_nI (by omega) (by decide)), nI_clamp (by omega), nI_clamp (by omega), hr K (by omega), hr (K + 1) hK]
    by_cases z : gt l K ≤ gt l (K + 1)
    · rw [if_pos (nI_le z (by omega)), if_pos z, ox_s]
    · rw [if_neg (lit_nle (by omega) (by omega) (by omega)), if_neg z]
      exact ih (by omega) n' (by omega)
theorem nxJ_le (l : List Nat) (x : Nat) : ∀ j, nxJ l x j ≤ j
  | 0 => Nat.le_refl _
  | j + 1 => by
    show (bif Nat.ble x (gt l (j + 1)) then j + 1 else nxJ l x j) ≤ j + 1
    rw [bcond]
    split
    · exact Nat.le_refl _
    · exact Nat.le_trans (nxJ_le l x j) (Nat.le_succ j)
theorem w_nx47 {w i : Nat} {l : List Nat} {τ : ss_M} (k : Int32 → ss_M → Option (Int32 × ss_M)) (hw : w ≤ 7) (hr : rw28 w l (sA τ 28 0)) (hs : ∀ i, i < w → gt l i < w) (hi : i < w) : ∀ m j, j = i + m → j < w → ∀ n, m < n → f_X8_nextLine_L47 (nI i) k n (nI j) τ = k (nI (nxJ l (gt l i) j)) τ := by
  intro m
  induction m with
  | zero =>
    intro j hj hjw n hn
    obtain ⟨n', rfl⟩ : ∃ n', n = n' + 1 := ⟨n - 1, by omega⟩
    have : j = i := by omega
    subst this
    have e1 : nxJ l (gt l j) j = j := by
      cases j with
      | zero => rfl
      | succ j =>
        show (bif Nat.ble (gt l (j + 1)) (gt l (j + 1)) then j + 1 else _) = j + 1
        rw [bcond, if_pos (Nat.le_refl _)]
    rw [f_X8_nextLine_L47, if_pos (gd_nI (by omega) (by decide)), if_pos (gd_nI (by omega) (by decide)), nI_clamp (by omega), if_pos (Int32.le_refl _), e1]
  | succ m ih =>
    intro j hj hjw n hn
    obtain ⟨n', rfl⟩ : ∃ n', n = n' + 1 := ⟨n - 1, by omega⟩
    obtain ⟨j', rfl⟩ : ∃ j', j = j' + 1 := ⟨j - 1, by omega⟩
    have h1 := hs i hi
    have h2 := hs (j' + 1) hjw
    have e1 : nxJ l (gt l i) (j' + 1) = if gt l i ≤ gt l (j' + 1) then j' + 1 else nxJ l (gt l i) j' := bcond _ _ _ _
    have e2 : nI (j' + 1) + -1 = nI j' := by
      rw [← Int32.sub_eq_add_neg]
      exact nIs (a := j' + 1) (b := 1) (by omega)
    rw [f_X8_nextLine_L47, if_pos (gd_nI (by omega) (by decide)), if_pos (gd_nI (by omega) (by decide)), nI_clamp (by omega), nI_clamp (by omega), hr i hi, hr (j' + 1) hjw, e1, e2]
    by_cases z : gt l i ≤ gt l (j' + 1)
    · rw [if_pos (nI_le z (by omega)), if_pos z]
    · rw [if_neg (lit_nle (by omega) (by omega) (by omega)), if_neg z]
      exact ih j' (by omega) (by omega) n' (by omega)
theorem w_rev {w : Nat} (hw : w ≤ 7) : ∀ m a b : Nat, b ≤ a + 2 * m → b < w → a ≤ w → ∀ (l : List Nat) (τ : ss_M) (n : Nat), m < n → l.length = w → rw28 w l (sA τ 28 0) → ∃ τ', f_X8_nextLine_L107 n (nI a) (nI b) τ = some (1, τ') ∧ QM τ τ' ∧ rw28 w (rvL m a b l) (sA τ' 28 0) ∧ sA τ' 29 0 = sA τ 29 0 := by
  intro m
  induction m with
  | zero =>
    intro a b hab hb ha l τ n hn hl hr
    obtain ⟨n', rfl⟩ : ∃ n', n = n' + 1 := ⟨n - 1, by omega⟩
    refine ⟨τ, ?_, QM.rf, hr, rfl⟩
    rw [f_X8_nextLine_L107, if_pos (nI_le (by omega) (by omega))]
  | succ m ih =>
    intro a b hab hb ha l τ n hn hl hr
    obtain ⟨n', rfl⟩ : ∃ n', n = n' + 1 := ⟨n - 1, by omega⟩
    have e1 : rvL (m + 1) a b l = if b ≤ a then l else rvL m (a + 1) (b - 1) (swp l a b) := bcond _ _ _ _
    rw [e1]
    by_cases z : b ≤ a
    · rw [if_pos z]
      refine ⟨τ, ?_, QM.rf, hr, rfl⟩
      rw [f_X8_nextLine_L107, if_pos (nI_le z (by omega))]
    · rw [if_neg z]
      have e7a : gd (nI a) 7 = true := gd_nI (by omega) (by decide)
      have e7b : gd (nI b) 7 = true := gd_nI (by omega) (by decide)
      obtain ⟨τ1, hτ1⟩ : ∃ τ1, τ1 = sAu τ 28 0 (upd (upd (sA τ 28 0) a (sA τ 28 0 b)) b (sA τ 28 0 a)) := ⟨_, rfl⟩
      have e2 : nI b + -1 = nI (b - 1) := by
        rw [← Int32.sub_eq_add_neg]
        exact nIs (a := b) (b := 1) (by omega)
      obtain ⟨τ', d1, d2, d3, d4⟩ := ih (a + 1) (b - 1) (by omega) (by omega) (by omega) (swp l a b) τ1 n' (by omega) (by rw [swp_len]; exact hl) (by rw [hτ1, sA_m]; exact rw_swp hr hl (by omega) (by omega))
      refine ⟨τ', ?_, (by rw [hτ1] at d2; exact (QM_a (by omega)).tr d2), d3, by rw [d4, hτ1, sA_n _ _ (by omega)]⟩
      rw [f_X8_nextLine_L107, if_neg (lit_nle (by omega) (by omega) (by omega)), if_pos e7a, if_pos e7b, if_pos e7a, if_pos e7b, nI_clamp (show a < 2 ^ 31 by omega), nI_clamp (show b < 2 ^ 31 by omega), sA_m, sA_2, ss_let, ← hτ1, nIa1, e2]
      exact d1
theorem w_next {w : Nat} {l : List Nat} {τ : ss_M} (hw : w ≤ 7) (h17 : sG τ 17 0 = nI w) (hl : okL w l = true) (hr : rw28 w l (sA τ 28 0)) : ∃ τ', f_X8_nextLine τ = some (if nxB w l = true then 0 else 1, τ') ∧ QM τ τ' ∧ (nxB w l = false → rw28 w (nxP w l) (sA τ' 28 0)) ∧ sA τ' 29 0 = sA τ 29 0 := by
  obtain ⟨l1, hs⟩ := okL_1 hl
  unfold f_X8_nextLine
  rw [h17]
  by_cases w0 : w = 0
  · subst w0
    refine ⟨τ, ?_, QM.rf, fun z => absurd z ?_, rfl⟩
    · rw [show FU = 9999 + 1 from rfl, f_X8_nextLine_L7, if_pos (show nI 0 - 2 < 0 by decide)]
      unfold f_X8_nextLine_j34
      rw [if_neg (show ¬ (0 : Int32) ≤ nI 0 - 2 by decide)]
      rfl
    · show ¬ Nat.beq 0 0 = false
      decide
  · have e0 : nI w - 2 = ox (w - 1) := by
      by_cases w1 : w = 1
      · subst w1; decide
      · obtain ⟨K, rfl⟩ : ∃ K, w = K + 2 := ⟨w - 2, by omega⟩
        rw [show K + 2 - 1 = K + 1 by omega, ox_s]
        exact nIs (a := K + 2) (b := 2) (by omega)
    rw [e0, w_nx7 _ hw hr hs (w - 1) (by omega) FU (FU_gt (by omega))]
    unfold f_X8_nextLine_j34 nxB nxP
    have kle := nxK_le l (w - 1)
    cases hK : nxK l (w - 1) with
    | zero =>
      refine ⟨τ, ?_, QM.rf, fun z => absurd z (by decide), rfl⟩
      rw [if_neg (show ¬ (0 : Int32) ≤ ox 0 by decide)]
      rfl
    | succ k =>
      have jle := nxJ_le l (gt l k) (w - 1)
      have e7k : gd (nI k) 7 = true := gd_nI (by omega) (by decide)
      have e7j : gd (nI (nxJ l (gt l k) (w - 1))) 7 = true := gd_nI (by omega) (by decide)
      have ew : nI w - 1 = nI (w - 1) := nIs (a := w) (b := 1) (by omega)
      obtain ⟨j, hj⟩ : ∃ j, j = nxJ l (gt l k) (w - 1) := ⟨_, rfl⟩
      obtain ⟨τ1, hτ1⟩ : ∃ τ1, τ1 = sAu τ 28 0 (upd (upd (sA τ 28 0) k (sA τ 28 0 j)) j (sA τ 28 0 k)) := ⟨_, rfl⟩
      rw [← hj] at jle e7j
      obtain ⟨τ', d1, d2, d3, d4⟩ := w_rev hw w (k + 1) (w - 1) (by omega) (by omega) (by omega) (swp l k j) τ1 FU (FU_gt (by omega)) (by rw [swp_len]; exact l1) (by rw [hτ1, sA_m]; exact rw_swp hr l1 (by omega) (by omega))
      refine ⟨τ', ?_, (by rw [hτ1] at d2; exact (QM_a (by omega)).tr d2), fun _ => by rw [hj] at d3; exact d3, by rw [d4, hτ1, sA_n _ _ (by omega)]⟩
      rw [ox_s, if_pos (nI_pos' (by omega)), h17, ew, w_nx47 _ hw hr hs (show k < w by omega) (w - 1 - k) (w - 1) (by omega) (by omega) FU (FU_gt (by omega)), ← hj]
      unfold f_X8_nextLine_j68
      rw [if_pos e7k, if_pos e7j, if_pos e7k, if_pos e7j, nI_clamp (show k < 2 ^ 31 by omega), nI_clamp (show j < 2 ^ 31 by omega), sA_m, sA_2, ss_let, ← hτ1, nIa1]
      have s17 : sG τ1 17 0 = nI w := by rw [hτ1]; exact h17
      rw [s17, ew]
      refine d1.trans ?_
      rfl
/-- how many pieces of a line are read, from the k-th place on, with h -/
def rbL (g : pPg) : List Nat → Nat → Nat → Nat
  | [], k, _ => k
  | p :: l, k, h => if h < g.2.1 p then k else rbL g l (k + 1) (spGive (g.2.2.2.1.2.2.1 k) (h - g.2.1 p) g.1.1)
def rdB (g : pPg) (l : List Nat) : Nat := rbL g l 0 g.1.1
theorem rbL_le (g : pPg) : ∀ (l : List Nat) (k h : Nat), k ≤ rbL g l k h ∧ rbL g l k h ≤ k + l.length
  | [], k, h => ⟨Nat.le_refl _, Nat.le_refl _⟩
  | p :: l, k, h => by
    show k ≤ (if h < g.2.1 p then k else rbL g l (k + 1) (spGive (g.2.2.2.1.2.2.1 k) (h - g.2.1 p) g.1.1)) ∧ (if h < g.2.1 p then k else rbL g l (k + 1) (spGive (g.2.2.2.1.2.2.1 k) (h - g.2.1 p) g.1.1)) ≤ k + (l.length + 1)
    have := rbL_le g l (k + 1) (spGive (g.2.2.2.1.2.2.1 k) (h - g.2.1 p) g.1.1)
    split
    · omega
    · omega
theorem w_readBy_L {n0 : Nat} {g : pPg} {l : List Nat} {τ : ss_M} (hg : gOk n0 g) (hm : mPg τ g) (hw : g.1.2.2.1 ≤ 7) (hs : ∀ i, i < g.1.2.2.1 → gt l i < g.1.2.2.1) (hr : rw28 g.1.2.2.1 l (sA τ 28 0)) : ∀ (rest : List Nat) (k h : Nat), k + rest.length = g.1.2.2.1 → (∀ i, gt rest i = gt l (k + i)) → h ≤ g.1.1 → ∀ n, rest.length < n → f_X8_readBy_L7 f_X8_readBy_j57 n (nI h) (nI k) τ = some (nI (rbL g rest k h), τ) := by
  have hB := hg.1.2
  intro rest
  induction rest with
  | nil =>
    intro k h hk he hh n hn
    obtain ⟨n', rfl⟩ : ∃ n', n = n' + 1 := ⟨n - 1, by omega⟩
    have hk' : k = g.1.2.2.1 := hk
    rw [f_X8_readBy_L7, hm.1.2.2.1, if_pos (nI_le (by omega) (by omega))]
    unfold f_X8_readBy_j57
    rw [hm.1.2.2.1, ← hk']
    rfl
  | cons p rest ih =>
    intro k h hk he hh n hn
    obtain ⟨n', rfl⟩ : ∃ n', n = n' + 1 := ⟨n - 1, by omega⟩
    have hk' : k + (rest.length + 1) = g.1.2.2.1 := hk
    have hn'' : rest.length + 1 < n' + 1 := hn
    have e0 : gt l k = p := (he 0).symm
    have pw := hs k (by omega)
    rw [e0] at pw
    have l9 := (hg.2.2.2.2.2.1 p pw).2
    rw [f_X8_readBy_L7, hm.1.2.2.1, if_neg (lit_nle (by omega) (by omega) (by omega)), if_pos (gd_nI (by omega) (by decide)), nI_clamp (show k < 2 ^ 31 by omega), hr k (by omega), e0, if_pos (gd_nI (by omega) (by decide)), nI_clamp (show p < 2 ^ 31 by omega), hm.2.1 p pw]
    show _ = some (nI (if h < g.2.1 p then k else rbL g rest (k + 1) (spGive (g.2.2.2.1.2.2.1 k) (h - g.2.1 p) g.1.1)), τ)
    by_cases z : h < g.2.1 p
    · rw [if_neg (lit_nle (by omega) (by omega) z), if_pos z]
    · have hG : spGive (g.2.2.2.1.2.2.1 k) (h - g.2.1 p) g.1.1 ≤ g.1.1 := spGive_le (by omega)
      rw [if_pos (nI_le (by omega) (by omega)), if_pos (gd_nI (by omega) (by decide)), hm.2.2.2.1.2.2.1 k (by omega), nIs (by omega), hm.1.1, w_give (hg.2.2.2.2.2.2.1.2.2 k (by omega)) (by omega) (by omega), ss_bd_e, nIa1, if_neg z]
      exact ih (k + 1) _ (by omega) (fun i => by
        have := he (i + 1)
        have e : k + 1 + i = k + (i + 1) := by omega
        rw [e]
        exact this) hG n' (by omega)
theorem w_readBy {n0 : Nat} {g : pPg} {l : List Nat} {τ : ss_M} (hg : gOk n0 g) (hm : mPg τ g) (hw : g.1.2.2.1 ≤ 7) (hl : okL g.1.2.2.1 l = true) (hr : rw28 g.1.2.2.1 l (sA τ 28 0)) : f_X8_readBy τ = some (nI (rdB g l), τ) := by
  obtain ⟨l1, hs⟩ := okL_1 hl
  unfold f_X8_readBy
  rw [hm.1.1]
  exact w_readBy_L hg hm hw hs hr l 0 g.1.1 (by omega) (fun i => by rw [Nat.zero_add]) (Nat.le_refl _) FU (FU_gt (by omega))
/-- the best of some lines: most is one more than how many, 0 none -/
def st1 (g : pPg) (s : Nat × List Nat) (l : List Nat) : Nat × List Nat := if s.1 < rdB g l + 1 then (rdB g l + 1, l) else s
theorem w_cp75 {w : Nat} {l : List Nat} (x y : Int32) (k : ss_M → Option (Int32 × ss_M)) (hw : w ≤ 7) (hxy : ¬ y ≤ x) : ∀ m i : Nat, i + m = w → ∀ (τ : ss_M) (n : Nat), m < n → sG τ 17 0 = nI w → rw28 w l (sA τ 28 0) → (∀ j, j < i → sA τ 29 0 j = nI (gt l j)) → ∃ τ', f_X8_order_L75 x y k n (nI i) τ = k τ' ∧ QM τ τ' ∧ sA τ' 28 0 = sA τ 28 0 ∧ rw28 w l (sA τ' 29 0) := by
  intro m
  induction m with
  | zero =>
    intro i hi τ n hn h17 hr hd
    obtain ⟨n', rfl⟩ : ∃ n', n = n' + 1 := ⟨n - 1, by omega⟩
    refine ⟨τ, ?_, QM.rf, rfl, fun j hj => hd j (by omega)⟩
    rw [f_X8_order_L75, h17, if_pos (nI_le (by omega) (by omega))]
  | succ m ih =>
    intro i hi τ n hn h17 hr hd
    obtain ⟨n', rfl⟩ : ∃ n', n = n' + 1 := ⟨n - 1, by omega⟩
    obtain ⟨τ1, hτ1⟩ : ∃ τ1, τ1 = sAu τ 29 0 (upd (sA τ 29 0) i (sA τ 28 0 i)) := ⟨_, rfl⟩
    have e28 : sA τ1 28 0 = sA τ 28 0 := by rw [hτ1, sA_n _ _ (by omega)]
    obtain ⟨τ', d1, d2, d3, d4⟩ := ih (i + 1) (by omega) τ1 n' (by omega) (by rw [hτ1]; exact h17) (by rw [e28]; exact hr) (fun j hj => by
      rw [hτ1, sA_m]
      by_cases z : j = i
      · rw [z, upd_m]; exact hr i (by omega)
      · rw [upd_n z]; exact hd j (by omega))
    have e7 : gd (nI i) 7 = true := gd_nI (by omega) (by decide)
    refine ⟨τ', ?_, (by rw [hτ1] at d2; exact (QM_a (by omega)).tr d2), d3.trans e28, d4⟩
    rw [f_X8_order_L75, h17, if_neg (lit_nle (by omega) (by omega) (by omega)), if_neg hxy, if_pos e7, if_pos e7, nI_clamp (by omega), ← hτ1, nIa1]
    exact d1
theorem ox_lt {a b : Nat} (ha : a ≤ 1000) (hb : b ≤ 1000) : ox a ≤ ox b ↔ a ≤ b := by
  have t : ∀ c, c ≤ 1000 → (ox c).toInt = (c : Int) - 1 := fun c hc => by
    cases c with
    | zero => rfl
    | succ c => rw [ox_s, tI (by omega)]; omega
  rw [i_le, t a ha, t b hb]
  omega
theorem w_or62 {n0 : Nat} {g : pPg} (k : Int32 → ss_M → Option (Int32 × ss_M)) (hg : gOk n0 g) (hw : g.1.2.2.1 ≤ 7) : ∀ (L : List (List Nat)) (l : List Nat), chk g.1.2.2.1 l L = true → ∀ (τ : ss_M) (M : Nat) (Bst : List Nat) (n : Nat), L.length + 1 < n → M ≤ 100 → mPg τ g → rw28 g.1.2.2.1 l (sA τ 28 0) → (M = 0 ∨ rw28 g.1.2.2.1 Bst (sA τ 29 0)) → ∃ τ', f_X8_order_L62 k n (ox M) 1 τ = k (ox ((l :: L).foldl (st1 g) (M, Bst)).1) τ' ∧ QM τ τ' ∧ rw28 g.1.2.2.1 ((l :: L).foldl (st1 g) (M, Bst)).2 (sA τ' 29 0) := by
  have step : ∀ (l : List Nat) (τ : ss_M) (M : Nat) (Bst : List Nat) (n : Nat), okL g.1.2.2.1 l = true → M ≤ 100 → mPg τ g → rw28 g.1.2.2.1 l (sA τ 28 0) → (M = 0 ∨ rw28 g.1.2.2.1 Bst (sA τ 29 0)) → ∃ τ', f_X8_order_L62 k (n + 1) (ox M) 1 τ = f_X8_order_L62 k n (ox (st1 g (M, Bst) l).1) (if nxB g.1.2.2.1 l = true then 0 else 1) τ' ∧ QM τ τ' ∧ (st1 g (M, Bst) l).1 ≤ 100 ∧ rw28 g.1.2.2.1 (st1 g (M, Bst) l).2 (sA τ' 29 0) ∧ (nxB g.1.2.2.1 l = false → rw28 g.1.2.2.1 (nxP g.1.2.2.1 l) (sA τ' 28 0)) := by
    intro l τ M Bst n hl hM hm hr hb
    obtain ⟨l1, hs⟩ := okL_1 hl
    have rle := (rbL_le g l 0 g.1.1).2
    have rle' : rdB g l ≤ 7 := by
      unfold rdB
      omega
    have hj110 : ∀ τ1, QM τ τ1 → rw28 g.1.2.2.1 l (sA τ1 28 0) → ∃ τ', f_X8_order_j110 (ox M) (f_X8_order_L62 k n) (nI (rdB g l)) τ1 = f_X8_order_L62 k n (ox (st1 g (M, Bst) l).1) (if nxB g.1.2.2.1 l = true then 0 else 1) τ' ∧ QM τ τ' ∧ (nxB g.1.2.2.1 l = false → rw28 g.1.2.2.1 (nxP g.1.2.2.1 l) (sA τ' 28 0)) ∧ sA τ' 29 0 = sA τ1 29 0 := by
      intro τ1 q1 r1
      obtain ⟨τ', d1, d2, d3, d4⟩ := w_next hw (hm.same q1.2).1.2.2.1 hl r1
      have hgr : f_X8_greater (ox M) (nI (rdB g l)) τ1 = some (ox (st1 g (M, Bst) l).1, τ1) := by
        unfold f_X8_greater st1
        have e := ox_lt (a := M) (b := rdB g l + 1) (by omega) (by omega)
        rw [ox_s] at e
        by_cases z : M < rdB g l + 1
        · rw [if_pos (e.mpr (by omega)), if_pos z]
          show _ = some (ox (rdB g l + 1), τ1)
          rw [ox_s]
        · rw [if_neg z]
          show _ = some (ox M, τ1)
          by_cases y : M = rdB g l + 1
          · rw [if_pos (e.mpr (by omega)), y, ox_s]
          · rw [if_neg (fun x => y (by have := e.mp x; omega))]
      refine ⟨τ', ?_, q1.tr d2, d3, d4⟩
      unfold f_X8_order_j110
      rw [hgr, ss_bd_e, d1, ss_bd_e]
    rw [f_X8_order_L62, if_neg n10, w_readBy hg hm hw hl hr, ss_bd_e]
    by_cases z : M < rdB g l + 1
    · have hxy : ¬ nI (rdB g l) ≤ ox M := by
        have e := ox_lt (a := rdB g l + 1) (b := M) (by omega) (by omega)
        rw [ox_s] at e
        rw [e]
        omega
      obtain ⟨τ1, c1, c2, c3, c4⟩ := w_cp75 (l := l) (ox M) (nI (rdB g l)) (f_X8_order_j110 (ox M) (f_X8_order_L62 k n) (nI (rdB g l))) hw hxy g.1.2.2.1 0 (Nat.zero_add _) τ FU (FU_gt (by omega)) hm.1.2.2.1 hr (fun j hj => by omega)
      obtain ⟨τ', d1, d2, d3, d4⟩ := hj110 τ1 c2 (by rw [c3]; exact hr)
      refine ⟨τ', ?_, d2, ?_, ?_, d3⟩
      · refine Eq.trans c1 ?_
        exact d1
      · unfold st1
        rw [if_pos z]
        show rdB g l + 1 ≤ 100
        omega
      · unfold st1
        rw [if_pos z, d4]
        exact c4
    · have hxy : nI (rdB g l) ≤ ox M := by
        have e := ox_lt (a := rdB g l + 1) (b := M) (by omega) (by omega)
        rw [ox_s] at e
        rw [e]
        omega
      obtain ⟨τ', d1, d2, d3, d4⟩ := hj110 τ QM.rf hr
      have e75 : f_X8_order_L75 (ox M) (nI (rdB g l)) (f_X8_order_j110 (ox M) (f_X8_order_L62 k n) (nI (rdB g l))) FU 0 τ = f_X8_order_j110 (ox M) (f_X8_order_L62 k n) (nI (rdB g l)) τ := by
        rw [show FU = 9999 + 1 from rfl, f_X8_order_L75, if_pos hxy]
        split <;> rfl
      refine ⟨τ', ?_, d2, ?_, ?_, d3⟩
      · rw [e75]
        exact d1
      · unfold st1
        rw [if_neg z]
        exact hM
      · unfold st1
        rw [if_neg z, d4]
        exact hb.resolve_left (by omega)
  intro L
  induction L with
  | nil =>
    intro l hc τ M Bst n hn hM hm hr hb
    obtain ⟨n2, rfl⟩ : ∃ n', n = n' + 1 + 1 := ⟨n - 2, by have : (0 : Nat) + 1 < n := hn; omega⟩
    have hc' : (okL g.1.2.2.1 l && nxB g.1.2.2.1 l) = true := hc
    rw [Bool.and_eq_true] at hc'
    obtain ⟨τ', d1, d2, d3, d4, d5⟩ := step l τ M Bst (n2 + 1) hc'.1 hM hm hr hb
    refine ⟨τ', ?_, d2, d4⟩
    rw [d1, if_pos hc'.2, f_X8_order_L62, if_pos rfl]
    rfl
  | cons m L ih =>
    intro l hc τ M Bst n hn hM hm hr hb
    have hn' : L.length + 1 + 1 < n := hn
    obtain ⟨n1, rfl⟩ : ∃ n', n = n' + 1 := ⟨n - 1, by omega⟩
    have hc' : ((okL g.1.2.2.1 l && (!nxB g.1.2.2.1 l && eqL (nxP g.1.2.2.1 l) m)) && chk g.1.2.2.1 m L) = true := hc
    rw [Bool.and_eq_true, Bool.and_eq_true, Bool.and_eq_true, Bool.not_eq_true'] at hc'
    obtain ⟨⟨c1, c2, c3⟩, c4⟩ := hc'
    obtain ⟨τ1, d1, d2, d3, d4, d5⟩ := step l τ M Bst n1 c1 hM hm hr hb
    have e5 := d5 c2
    rw [eqL_1 _ _ c3] at e5
    obtain ⟨τ', f1, f2, f3⟩ := ih m c4 τ1 (st1 g (M, Bst) l).1 (st1 g (M, Bst) l).2 n1 (by omega) d3 (hm.same d2.2) e5 (Or.inr d4)
    refine ⟨τ', ?_, d2.tr f2, f3⟩
    rw [d1, if_neg (by rw [c2]; decide), f1]
    rfl
