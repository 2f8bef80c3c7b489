/-! where one gets stuck -/
/-- on from piece i with h breath left: the piece at which one is stuck, or w -/
def spSt (B : Nat) (len : Nat → Nat) (kin : Nat → Int32) (gone : Int32) : Nat → Nat → Nat → Nat
  | 0, i, _ => i
  | m + 1, i, h => if nI i = gone then spSt B len kin gone m (i + 1) h else if len i ≤ h then spSt B len kin gone m (i + 1) (spGive (kin i) (h - len i) B) else i
theorem v_left {p i h B L : Nat} {σ : ss_M} (hi : i < 12) (hh : h ≤ 1000) (hB : B ≤ 1000) (hL : L ≤ 1000) : f_X4_leftBehind p (nI i) (nI L) (nI h) (nI B) σ = some (if L ≤ h then nI (spGive (sA σ 0 p i) (h - L) B) else -1, σ) := by
  unfold f_X4_leftBehind
  by_cases q : L ≤ h
  · rw [if_pos (nI_le q (by omega)), if_pos (gd_nI hi (by decide)), nI_clamp (by omega), nIs q, v_give (by omega) hB, if_pos q]
    rfl
  · rw [if_neg (fun z => q ((nI_leI (by omega) (by omega)).mp z)), if_neg q]
theorem nm1 {a : Nat} (h : a < 2 ^ 31) : ¬ nI a = -1 := fun q => by
  have := i_eq.mp q
  rw [tI h] at this
  have e : (-1 : Int32).toInt = -1 := by decide
  omega
theorem v_stuck_L {B w : Nat} {gone : Int32} {len : Nat → Nat} {kin : Nat → Int32} {p : Nat} {σ : ss_M} (hB : B ≤ 30) (hw : w ≤ 12) (e5 : sG σ 5 p = nI w) (hl : ∀ i, i < w → sA σ 4 p i = nI (len i) ∧ len i ≤ 9) (hk : ∀ i, i < w → sA σ 0 p i = kin i) : ∀ m i h : Nat, i + m = w → h ≤ B → ∀ n, m < n → f_X4_stuckAt_L5 p (nI B) gone n (nI h) (nI i) σ = some (if spSt B len kin gone m i h = w then -1 else nI (spSt B len kin gone m i h), σ) := by
  intro m
  induction m with
  | zero =>
    intro i h hi hh n hn
    obtain ⟨n', rfl⟩ : ∃ n', n = n' + 1 := ⟨n - 1, by omega⟩
    have : i = w := by omega
    subst this
    rw [f_X4_stuckAt_L5, e5, if_pos (nI_le (Nat.le_refl _) (by omega)), spSt, if_pos rfl]
  | succ m ih =>
    intro i h hi hh n hn
    obtain ⟨n', rfl⟩ : ∃ n', n = n' + 1 := ⟨n - 1, by omega⟩
    rw [f_X4_stuckAt_L5, e5, if_neg (lit_nle (by omega) (by omega) (by omega)), spSt]
    by_cases hg : nI i = gone
    · rw [if_pos hg, if_pos hg]
      unfold f_X4_stuckAt_j36
      rw [if_neg (nm1 (by omega)), nIa1]
      exact ih (i + 1) h (by omega) hh n' (by omega)
    · obtain ⟨l1, l2⟩ := hl i (by omega)
      rw [if_neg hg, if_neg hg, if_pos (gd_nI (by omega) (by decide)), nI_clamp (by omega), l1, v_left (by omega) (by omega) (by omega) (by omega), hk i (by omega), ss_bd_e]
      unfold f_X4_stuckAt_j36
      by_cases q : len i ≤ h
      · have hgl : spGive (kin i) (h - len i) B ≤ B := spGive_le (by omega)
        rw [if_pos q, if_pos q, if_neg (nm1 (by omega)), nIa1]
        exact ih (i + 1) _ (by omega) hgl n' (by omega)
      · rw [if_neg q, if_neg q, if_pos rfl, if_neg (by omega)]
theorem spSt_le (B : Nat) (len : Nat → Nat) (kin : Nat → Int32) (gone : Int32) : ∀ m i h, spSt B len kin gone m i h ≤ i + m := by
  intro m
  induction m with
  | zero => intro i h; rw [spSt]; omega
  | succ m ih =>
    intro i h
    rw [spSt]
    split
    · have := ih (i + 1) h; omega
    · split
      · have := ih (i + 1) (spGive (kin i) (h - len i) B); omega
      · omega
theorem w_stuck_L {B w : Nat} {gone : Int32} {len : Nat → Nat} {kin : Nat → Int32} {τ : ss_M} (hB : B ≤ 30) (hw : w ≤ 12) (e5 : sG τ 17 0 = nI w) (hl : ∀ i, i < w → sA τ 17 0 i = nI (len i) ∧ len i ≤ 9) (hk : ∀ i, i < w → sA τ 18 0 i = kin i ∧ kOk (kin i)) : ∀ m i h : Nat, i + m = w → h ≤ B → ∀ n, m < n → f_X8_stuckBy_L5 (nI B) gone f_X8_stuckBy_j61 n (nI h) (nI i) τ = some (nI (spSt B len kin gone m i h), τ) := by
  intro m
  induction m with
  | zero =>
    intro i h hi hh n hn
    obtain ⟨n', rfl⟩ : ∃ n', n = n' + 1 := ⟨n - 1, by omega⟩
    have : i = w := by omega
    subst this
    rw [f_X8_stuckBy_L5, e5, if_pos (nI_le (Nat.le_refl _) (by omega)), spSt]
    unfold f_X8_stuckBy_j61
    rw [e5]
  | succ m ih =>
    intro i h hi hh n hn
    obtain ⟨n', rfl⟩ : ∃ n', n = n' + 1 := ⟨n - 1, by omega⟩
    rw [f_X8_stuckBy_L5, e5, if_neg (lit_nle (by omega) (by omega) (by omega)), spSt]
    by_cases hg : nI i = gone
    · rw [if_pos hg, if_pos hg]
      unfold f_X8_stuckBy_j55
      rw [nIa1]
      exact ih (i + 1) h (by omega) hh n' (by omega)
    · obtain ⟨l1, l2⟩ := hl i (by omega)
      obtain ⟨k1, k2⟩ := hk i (by omega)
      rw [if_neg hg, if_neg hg, if_pos (gd_nI (by omega) (by decide)), nI_clamp (by omega), l1, k1]
      by_cases q : len i ≤ h
      · have hgl : spGive (kin i) (h - len i) B ≤ B := spGive_le (by omega)
        rw [if_pos (nI_le q (by omega)), if_pos (gd_nI (by omega) (by decide)), if_pos (gd_nI (by omega) (by decide)), nIs q, w_give k2 (by omega) (by omega), if_pos q, ss_bd_e]
        unfold f_X8_stuckBy_j55
        rw [nIa1]
        exact ih (i + 1) _ (by omega) hgl n' (by omega)
      · rw [if_neg (fun z => q ((nI_leI (by omega) (by omega)).mp z)), if_neg q]
/-- stuckAt and stuckBy of a breath, with a piece gone -/
def gSt (g : pPg) (B : Nat) (gone : Int32) : Nat := spSt B g.2.1 g.2.2.2.1.2.2.1 gone g.1.2.2.1 0 B
theorem gSt_le (g : pPg) (B : Nat) (gone : Int32) : gSt g B gone ≤ g.1.2.2.1 := by
  have := spSt_le B g.2.1 g.2.2.2.1.2.2.1 gone g.1.2.2.1 0 B
  unfold gSt
  omega
theorem v_stuck {n p B : Nat} {g : pPg} {gone : Int32} {σ : ss_M} (hB : B ≤ 30) (hg : gOk n g) (h : cPg σ p g) : f_X4_stuckAt p (nI B) gone σ = some (if gSt g B gone = g.1.2.2.1 then -1 else nI (gSt g B gone), σ) :=
  v_stuck_L hB hg.2.2.1 h.1.2.2.1 (fun i hi => ⟨h.2.1 i hi, (hg.2.2.2.2.2.1 i hi).2⟩) (fun i hi => h.2.2.2.1.2.2.1 i hi) g.1.2.2.1 0 B (by omega) (Nat.le_refl _) FU (FU_gt (by have := hg.2.2.1; omega))
theorem w_stuck {n B : Nat} {g : pPg} {gone : Int32} {τ : ss_M} (hB : B ≤ 30) (hg : gOk n g) (h : mPg τ g) : f_X8_stuckBy (nI B) gone τ = some (nI (gSt g B gone), τ) :=
  w_stuck_L hB hg.2.2.1 h.1.2.2.1 (fun i hi => ⟨h.2.1 i hi, (hg.2.2.2.2.2.1 i hi).2⟩) (fun i hi => ⟨h.2.2.2.1.2.2.1 i hi, hg.2.2.2.2.2.2.1.2.2 i hi⟩) g.1.2.2.1 0 B (by omega) (Nat.le_refl _) FU (FU_gt (by have := hg.2.2.1; omega))
theorem sim_stuck {n : Nat} {σ τ : ss_M} (H : Cpl n σ τ) : simI n (f_X7_stuck σ) (f_X8_stuck τ) := by
  obtain ⟨g, hg, hc, hm⟩ := H.2.1
  have h12 := hg.2.2.1
  have hle := gSt_le g g.1.1 (-1)
  unfold f_X7_stuck f_X8_stuck
  rw [hc.1.1, hm.1.1, v_stuck hg.1.2 hg hc, w_stuck hg.1.2 hg hm, ss_bd_e, ss_bd_e, hm.1.2.2.1]
  by_cases e : gSt g g.1.1 (-1) = g.1.2.2.1
  · rw [if_pos e, if_pos (by rw [e])]
    exact simI.q H rfl rfl
  · rw [if_neg e, if_neg (fun q => e ((nI_eq (by omega) (by omega)).mp q))]
    exact simI.q H rfl rfl
