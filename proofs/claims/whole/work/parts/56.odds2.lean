/-! odds, the loops -/
def flB (r : Nat → Int64) (x : Int64) (i : Nat) : Nat → Int64 := fun j => if j < i then x else r j
theorem flB_0 (r : Nat → Int64) (x : Int64) : flB r x 0 = r := by
  funext j
  unfold flB
  rw [if_neg (by omega)]
theorem flB_s (r : Nat → Int64) (x : Int64) (i : Nat) : vp_updL (flB r x i) i x = flB r x (i + 1) := by
  funext j
  by_cases e : j = i
  · rw [e, pk_uLs]; unfold flB; rw [if_pos (by omega)]
  · rw [pk_uLn e]
    unfold flB
    by_cases q : j < i
    · rw [if_pos q, if_pos (by omega)]
    · rw [if_neg q, if_neg (by omega)]
def cpB (r s : Nat → Int64) (i : Nat) : Nat → Int64 := fun j => if j < i then s j else r j
theorem cpB_0 (r s : Nat → Int64) : cpB r s 0 = r := by
  funext j
  unfold cpB
  rw [if_neg (by omega)]
theorem cpB_s (r s : Nat → Int64) (i : Nat) : vp_updL (cpB r s i) i (s i) = cpB r s (i + 1) := by
  funext j
  by_cases e : j = i
  · rw [e, pk_uLs]; unfold cpB; rw [if_pos (by omega)]
  · rw [pk_uLn e]
    unfold cpB
    by_cases q : j < i
    · rw [if_pos q, if_pos (by omega)]
    · rw [if_neg q, if_neg (by omega)]
theorem sB_2 (σ : ss_M) (c : Nat) (a b : Nat → Int64) : sBu (sBu σ c a) c b = sBu σ c b := by
  obtain ⟨x, y, z, u, v⟩ := σ
  unfold sBu
  congr 3
  congr 1
  funext c'
  by_cases q : c' = c
  · simp [q]
  · simp [q]
theorem ex_sB (σ : ss_M) (c : Nat) : sBu σ c (sB σ c) = σ := by
  obtain ⟨x, y, z, u, v⟩ := σ
  unfold sBu sB
  congr 3
  congr 1
  funext c'
  by_cases q : c' = c
  · simp [q]
  · simp [q]
theorem vB_L6 (kc : Nat) (x : Int64) (σ : ss_M) (r : Nat → Int64) : ∀ m i : Nat, i + m = 31 → ∀ n, m < n → f_J7_fill_d0a16_L6 kc x n (nI i) (sBu σ kc (flB r x i)) = some (sBu σ kc (flB r x 31)) := by
  intro m
  induction m with
  | zero =>
    intro i hi n hn
    obtain ⟨n', rfl⟩ : ∃ n', n = n' + 1 := ⟨n - 1, by omega⟩
    rw [f_J7_fill_d0a16_L6, if_pos (lle 31 31 (i := i) (by omega) (by omega)), show i = 31 by omega]
  | succ m ih =>
    intro i hi n hn
    obtain ⟨n', rfl⟩ : ∃ n', n = n' + 1 := ⟨n - 1, by omega⟩
    rw [f_J7_fill_d0a16_L6, if_neg (lnle 31 31 (i := i) (by omega)), if_pos (gd_nI (by omega) (by decide)), nI_clamp (by omega), nIa1, sB_m, sB_2, flB_s]
    exact ih (i + 1) (by omega) n' (by omega)
theorem v_fillB (kc : Nat) (x : Int64) (σ : ss_M) : f_J7_fill_d0a16 kc x σ = some (sBu σ kc (flB (sB σ kc) x 31)) := by
  have e := vB_L6 kc x σ (sB σ kc) 31 0 rfl FU (FU_gt (by decide))
  rw [flB_0, ex_sB] at e
  exact e
theorem wB_L65 (k : ss_M → Option (Int32 × ss_M)) (τ : ss_M) (r : Nat → Int64) : ∀ m i : Nat, i + m = 31 → ∀ n, m < n → f_X8_odds_L65 k n (nI i) (sBu τ 3 (flB r 0 i)) = k (sBu τ 3 (flB r 0 31)) := by
  intro m
  induction m with
  | zero =>
    intro i hi n hn
    obtain ⟨n', rfl⟩ : ∃ n', n = n' + 1 := ⟨n - 1, by omega⟩
    have : i = 31 := by omega
    subst this
    rw [f_X8_odds_L65, if_pos (show (30 : Int32) < nI 31 by decide)]
  | succ m ih =>
    intro i hi n hn
    obtain ⟨n', rfl⟩ : ∃ n', n = n' + 1 := ⟨n - 1, by omega⟩
    rw [f_X8_odds_L65, if_neg (show ¬ (30 : Int32) < nI i from nI_nlt (b := i) (a := 30) (by omega) (by decide)), if_pos (gd_nI (by omega) (by decide)), nI_clamp (by omega), nIa1, sB_m, sB_2, flB_s]
    exact ih (i + 1) (by omega) n' (by omega)
theorem wB_L228 (k : ss_M → Option (Int32 × ss_M)) (τ : ss_M) (r : Nat → Int64) : ∀ m i : Nat, i + m = 31 → ∀ n, m < n → f_X8_odds_L228 k n (nI i) (sBu τ 2 (cpB r (sB τ 3) i)) = k (sBu τ 2 (cpB r (sB τ 3) 31)) := by
  intro m
  induction m with
  | zero =>
    intro i hi n hn
    obtain ⟨n', rfl⟩ : ∃ n', n = n' + 1 := ⟨n - 1, by omega⟩
    have : i = 31 := by omega
    subst this
    rw [f_X8_odds_L228, if_pos (show (30 : Int32) < nI 31 by decide)]
  | succ m ih =>
    intro i hi n hn
    obtain ⟨n', rfl⟩ : ∃ n', n = n' + 1 := ⟨n - 1, by omega⟩
    rw [f_X8_odds_L228, if_neg (show ¬ (30 : Int32) < nI i from nI_nlt (b := i) (a := 30) (by omega) (by decide)), if_pos (gd_nI (by omega) (by decide)), if_pos (gd_nI (by omega) (by decide)), nI_clamp (by omega), nIa1, sB_m, sB_2, sB_n _ _ (show ¬ 3 = 2 by decide), cpB_s]
    exact ih (i + 1) (by omega) n' (by omega)
def stL (B : Nat) (r : Nat → Int64) (i : Nat) : Nat → Int64 := fun j => if j < i then (if j = B then 1 else 0) else r j
theorem stL_s (B : Nat) (r : Nat → Int64) (i : Nat) : vp_updL (stL B r i) i (if i = B then 1 else 0) = stL B r (i + 1) := by
  funext j
  by_cases e : j = i
  · rw [e, pk_uLs]; unfold stL; rw [if_pos (show i < i + 1 by omega)]
  · rw [pk_uLn e]
    unfold stL
    by_cases q : j < i
    · rw [if_pos q, if_pos (show j < i + 1 by omega)]
    · rw [if_neg q, if_neg (show ¬ j < i + 1 by omega)]
theorem wB_L17 {B : Nat} (k : ss_M → Option (Int32 × ss_M)) (τ : ss_M) (r : Nat → Int64) (hB : B ≤ 30) (e : sG τ 18 0 = nI B) : ∀ m i : Nat, i + m = 31 → ∀ n, m < n → f_X8_odds_L17 k n (nI i) (sBu τ 2 (stL B r i)) = k (sBu τ 2 (stL B r 31)) := by
  intro m
  induction m with
  | zero =>
    intro i hi n hn
    obtain ⟨n', rfl⟩ : ∃ n', n = n' + 1 := ⟨n - 1, by omega⟩
    have : i = 31 := by omega
    subst this
    rw [f_X8_odds_L17, if_pos (show (30 : Int32) < nI 31 by decide)]
  | succ m ih =>
    intro i hi n hn
    obtain ⟨n', rfl⟩ : ∃ n', n = n' + 1 := ⟨n - 1, by omega⟩
    have h := ih (i + 1) (by omega) n' (by omega)
    rw [← stL_s] at h
    have e31 : gd (nI i) 31 = true := gd_nI (by omega) (by decide)
    rw [f_X8_odds_L17, if_neg (show ¬ (30 : Int32) < nI i from nI_nlt (b := i) (a := 30) (by omega) (by decide)), sG_B', e]
    unfold f_X8_odds_j41
    rw [if_pos e31, if_pos e31, nI_clamp (by omega), nIa1, sB_m, sB_2, sB_2]
    by_cases q : i = B
    · rw [if_pos (by rw [q])]
      rw [if_pos q] at h
      exact h
    · rw [if_neg (fun z => q ((nI_eq (by omega) (by omega)).mp z))]
      rw [if_neg q] at h
      exact h
theorem v_sum {B : Nat} {f : Nat → Nat} {σ : ss_M} (k : Int64 → ss_M → Option ss_M) (hB : B ≤ 30) (e : sG σ 3 0 = nI B) (h : rwN (sB σ 0) f) : ∀ m c : Nat, c + m = B + 1 → ∀ n, m < n → f_X0_reckon_L110 0 k n (lN (smK f c)) (nI c) σ = k (lN (smK f (B + 1))) σ := by
  intro m
  induction m with
  | zero =>
    intro i hi n hn
    obtain ⟨n', rfl⟩ : ∃ n', n = n' + 1 := ⟨n - 1, by omega⟩
    rw [f_X0_reckon_L110, e, if_pos (nI_lt (by omega) (by omega)), show i = B + 1 by omega]
  | succ m ih =>
    intro i hi n hn
    obtain ⟨n', rfl⟩ : ∃ n', n = n' + 1 := ⟨n - 1, by omega⟩
    rw [f_X0_reckon_L110, e, if_neg (nI_nlt (by omega) (by omega)), if_pos (gd_nI (by omega) (by decide)), nI_clamp (by omega), h i (by omega), lN_add, nIa1]
    exact ih (i + 1) (by omega) n' (by omega)
theorem w_sum {f : Nat → Nat} {τ : ss_M} (k : Int64 → ss_M → Option (Int32 × ss_M)) (h : rwN (sB τ 2) f) : ∀ m c : Nat, c + m = 31 → ∀ n, m < n → f_X8_odds_L282 k n (lN (smK f c)) (nI c) τ = k (lN (smK f 31)) τ := by
  intro m
  induction m with
  | zero =>
    intro i hi n hn
    obtain ⟨n', rfl⟩ : ∃ n', n = n' + 1 := ⟨n - 1, by omega⟩
    have : i = 31 := by omega
    subst this
    rw [f_X8_odds_L282, if_pos (show (30 : Int32) < nI 31 by decide)]
  | succ m ih =>
    intro i hi n hn
    obtain ⟨n', rfl⟩ : ∃ n', n = n' + 1 := ⟨n - 1, by omega⟩
    rw [f_X8_odds_L282, if_neg (show ¬ (30 : Int32) < nI i from nI_nlt (b := i) (a := 30) (by omega) (by decide)), if_pos (gd_nI (by omega) (by decide)), nI_clamp (by omega), h i (by omega), lN_add, nIa1]
    exact ih (i + 1) (by omega) n' (by omega)
theorem sm_z {f : Nat → Nat} {B : Nat} (h : ∀ x, B < x → x < 31 → f x = 0) : ∀ k, B + 1 ≤ k → k ≤ 31 → smK f k = smK f (B + 1) := by
  intro k
  induction k with
  | zero => intro h1; omega
  | succ k ih =>
    intro h1 h2
    by_cases e : k = B
    · rw [e]
    · rw [smK, h k (by omega) (by omega), ih (by omega) (by omega), Nat.add_zero]
