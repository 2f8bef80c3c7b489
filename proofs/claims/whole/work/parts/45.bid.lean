/-! bid -/
theorem v_inI (x a b : Int32) (σ : ss_M) : f_X7_isWithin x a b σ = some (if a ≤ x ∧ x ≤ b then 1 else 0, σ) := by
  by_cases h : a ≤ x ∧ x ≤ b
  · rw [v_in1 h, if_pos h]
  · rw [v_in0 h, if_neg h]
theorem w_inI (x a b : Int32) (σ : ss_M) : f_X8_in x a b σ = some (if a ≤ x ∧ x ≤ b then 1 else 0, σ) := by
  by_cases h : a ≤ x ∧ x ≤ b
  · rw [w_in1 h, if_pos h]
  · rw [w_in0 h, if_neg h]
theorem v_oneI (x : Int32) (σ : ss_M) : f_X1_isOne x σ = some (if 0 ≤ x ∧ x ≤ 5 then 1 else 0, σ) := by
  by_cases h : 0 ≤ x ∧ x ≤ 5
  · rw [v_one1 h, if_pos h]
  · rw [v_one0 h, if_neg h]
theorem w_kdI (x : Int32) (σ : ss_M) : f_X8_isKind x σ = some (if 0 ≤ x ∧ x ≤ 5 then 1 else 0, σ) := by
  by_cases h : 0 ≤ x ∧ x ≤ 5
  · rw [w_kd1 h, if_pos h]
  · rw [w_kd0 h, if_neg h]
def spGa (a b c d : Int32) : Int32 := if a ≤ b then 0 else if a < d then 0 else c - a
theorem v_gain (a b c d : Int32) (σ : ss_M) : f_X7_gain a b c d σ = some (spGa a b c d, σ) := by
  unfold f_X7_gain spGa
  split
  · rfl
  · split <;> rfl
theorem w_gain (a b c d : Int32) (σ : ss_M) : f_X8_gain a b c d σ = some (spGa a b c d, σ) := by
  unfold f_X8_gain spGa
  split
  · rfl
  · split <;> rfl
def spBe (t : Nat → Bool) : Nat → Nat → Bool
  | 0, _ => true
  | m + 1, i => t i && spBe t m (i + 1)
theorem v_best_L {P : Nat} {b c d r : Int32} {σ : ss_M} (hP : P ≤ 20) : ∀ m i : Nat, i + m = P + 1 → ∀ n, m < n → f_X7_isBest_L13 (nI P) b c d r n (nI i) σ = some (if spBe (fun i => decide (spGa (nI i) b c d ≤ r)) m i then 1 else 0, σ) := by
  intro m
  induction m with
  | zero =>
    intro i hi n hn
    obtain ⟨n', rfl⟩ : ∃ n', n = n' + 1 := ⟨n - 1, by omega⟩
    rw [f_X7_isBest_L13, if_pos (nI_lt (by omega) (by omega)), spBe, if_pos rfl]
  | succ m ih =>
    intro i hi n hn
    obtain ⟨n', rfl⟩ : ∃ n', n = n' + 1 := ⟨n - 1, by omega⟩
    rw [f_X7_isBest_L13, if_neg (nI_nlt (by omega) (by omega)), v_gain, ss_bd_e, spBe, nIa1]
    by_cases q : spGa (nI i) b c d ≤ r
    · rw [if_pos q, ih (i + 1) (by omega) n' (by omega), decide_eq_true q, Bool.true_and]
    · rw [if_neg q, decide_eq_false q, Bool.false_and]
      rfl
theorem w_rests_0 {P : Nat} {a b c d : Int32} {σ : ss_M} (hP : P ≤ 20) : ∀ m i : Nat, i + m = P + 1 → ∀ n, m < n → f_X8_rests_L6 a b c d (nI P) n 0 (nI i) σ = some (0, σ) := by
  intro m
  induction m with
  | zero =>
    intro i hi n hn
    obtain ⟨n', rfl⟩ : ∃ n', n = n' + 1 := ⟨n - 1, by omega⟩
    rw [f_X8_rests_L6, if_pos (nI_lt (by omega) (by omega)), if_pos (by decide)]
  | succ m ih =>
    intro i hi n hn
    obtain ⟨n', rfl⟩ : ∃ n', n = n' + 1 := ⟨n - 1, by omega⟩
    rw [f_X8_rests_L6, if_neg (nI_nlt (by omega) (by omega)), if_pos rfl]
    unfold f_X8_rests_j40 f_X8_rests_j41
    rw [nIa1]
    exact ih (i + 1) (by omega) n' (by omega)
theorem w_rests_L {P : Nat} {a b c d : Int32} {σ : ss_M} (hP : P ≤ 20) : ∀ m i : Nat, i + m = P + 1 → ∀ n, m < n → f_X8_rests_L6 a b c d (nI P) n 1 (nI i) σ = some (if spBe (fun i => decide (spGa (nI i) b c d ≤ spGa a b c d)) m i then 1 else 0, σ) := by
  intro m
  induction m with
  | zero =>
    intro i hi n hn
    obtain ⟨n', rfl⟩ : ∃ n', n = n' + 1 := ⟨n - 1, by omega⟩
    rw [f_X8_rests_L6, if_pos (nI_lt (by omega) (by omega)), if_pos (by decide), spBe, if_pos rfl]
  | succ m ih =>
    intro i hi n hn
    obtain ⟨n', rfl⟩ : ∃ n', n = n' + 1 := ⟨n - 1, by omega⟩
    rw [f_X8_rests_L6, if_neg (nI_nlt (by omega) (by omega)), if_neg n10, w_gain, ss_bd_e, w_gain, ss_bd_e, spBe]
    unfold f_X8_rests_j40 f_X8_rests_j41
    rw [nIa1]
    by_cases q : spGa (nI i) b c d ≤ spGa a b c d
    · rw [if_neg (show ¬ spGa a b c d < spGa (nI i) b c d from fun z => by rw [i_lt] at z; rw [i_le] at q; omega), ih (i + 1) (by omega) n' (by omega), decide_eq_true q, Bool.true_and]
    · rw [if_pos (show spGa a b c d < spGa (nI i) b c d by rw [i_lt]; rw [i_le] at q; omega), w_rests_0 hP m (i + 1) (by omega) n' (by omega), decide_eq_false q, Bool.false_and]
      rfl
def spBs (P : Nat) (a b c d : Int32) : Bool := spBe (fun i => decide (spGa (nI i) b c d ≤ spGa a b c d)) (P + 1) 0
theorem v_best {P : Nat} {a b c d : Int32} {σ : ss_M} (hP : P ≤ 20) : f_X7_isBest a (nI P) b c d σ = some (if spBs P a b c d then 1 else 0, σ) := by
  unfold f_X7_isBest
  rw [v_gain, ss_bd_e]
  exact v_best_L hP (P + 1) 0 (Nat.zero_add _) FU (FU_gt (by omega))
theorem w_best {P : Nat} {a b c d : Int32} {σ : ss_M} (hP : P ≤ 20) : f_X8_rests a b c d (nI P) σ = some (if spBs P a b c d then 1 else 0, σ) := by
  unfold f_X8_rests
  exact w_rests_L hP (P + 1) 0 (Nat.zero_add _) FU (FU_gt (by omega))
def spBi (t : Nat → Bool) (v : Nat → Int32) : Nat → Nat → Int32 → Int32 → Int32 × Int32
  | 0, _, b, c => (b, c)
  | m + 1, j, b, c => if t j then spBi t v m (j + 1) (if c = 0 then v j else b) (c + 1) else spBi t v m (j + 1) b c
def tBi (P1 P2 : Nat) (p3 p4 r x : Int32) (j : Nat) : Bool := spBs P1 x (nI j) p3 r && spBs P2 (nI j) x p4 r
def vBi (x : Int32) (j : Nat) : Int32 := 100 * x + nI j
theorem v_bi {P1 P2 : Nat} {p3 p4 r x : Int32} {σ : ss_M} (k : Int32 → Int32 → ss_M → Option (Int32 × ss_M)) (h1 : P1 ≤ 20) (h2 : P2 ≤ 20) : ∀ m j : Nat, j + m = P2 + 1 → ∀ b c n, m < n → f_X7_bid_L118 (nI P1) (nI P2) p3 p4 r x k n b c (nI j) σ = k (spBi (tBi P1 P2 p3 p4 r x) (vBi x) m j b c).1 (spBi (tBi P1 P2 p3 p4 r x) (vBi x) m j b c).2 σ := by
  intro m
  induction m with
  | zero =>
    intro i hi b c n hn
    obtain ⟨n', rfl⟩ : ∃ n', n = n' + 1 := ⟨n - 1, by omega⟩
    rw [f_X7_bid_L118, if_pos (nI_lt (by omega) (by omega)), spBi]
  | succ m ih =>
    intro i hi b c n hn
    obtain ⟨n', rfl⟩ : ∃ n', n = n' + 1 := ⟨n - 1, by omega⟩
    rw [f_X7_bid_L118, if_neg (nI_nlt (by omega) (by omega)), v_best h1, ss_bd_e, spBi]
    unfold f_X7_bid_j172 f_X7_bid_j177
    rw [nIa1, v_best h2, ss_bd_e]
    cases e1 : spBs P1 x (nI i) p3 r
    · rw [if_pos (by decide), show tBi P1 P2 p3 p4 r x i = false by unfold tBi; rw [e1]; rfl, if_neg (by decide)]
      exact ih (i + 1) (by omega) b c n' (by omega)
    · rw [if_pos rfl, if_neg n10]
      cases e2 : spBs P2 (nI i) x p4 r
      · rw [if_pos (by decide), show tBi P1 P2 p3 p4 r x i = false by unfold tBi; rw [e1, e2]; rfl, if_neg (by decide)]
        exact ih (i + 1) (by omega) b c n' (by omega)
      · rw [if_pos rfl, if_neg n10, show tBi P1 P2 p3 p4 r x i = true by unfold tBi; rw [e1, e2]; rfl, if_pos rfl]
        by_cases z : c = 0
        · rw [if_pos z, if_pos z]
          exact ih (i + 1) (by omega) (vBi x i) (c + 1) n' (by omega)
        · rw [if_neg z, if_neg z]
          exact ih (i + 1) (by omega) b (c + 1) n' (by omega)
theorem w_bi {P1 P2 : Nat} {p3 p4 r x : Int32} {σ : ss_M} (k : Int32 → Int32 → ss_M → Option (Int32 × ss_M)) (h1 : P1 ≤ 20) (h2 : P2 ≤ 20) : ∀ m j : Nat, j + m = P2 + 1 → ∀ b c n, m < n → f_X8_bid_L101 (nI P1) (nI P2) p3 p4 r x k n c b (nI j) σ = k (spBi (tBi P1 P2 p3 p4 r x) (vBi x) m j b c).2 (spBi (tBi P1 P2 p3 p4 r x) (vBi x) m j b c).1 σ := by
  intro m
  induction m with
  | zero =>
    intro i hi b c n hn
    obtain ⟨n', rfl⟩ : ∃ n', n = n' + 1 := ⟨n - 1, by omega⟩
    rw [f_X8_bid_L101, if_pos (nI_lt (by omega) (by omega)), spBi]
  | succ m ih =>
    intro i hi b c n hn
    obtain ⟨n', rfl⟩ : ∃ n', n = n' + 1 := ⟨n - 1, by omega⟩
    rw [f_X8_bid_L101, if_neg (nI_nlt (by omega) (by omega)), w_best h1, ss_bd_e, spBi]
    unfold f_X8_bid_j155 f_X8_bid_j160
    rw [nIa1, w_best h2, ss_bd_e]
    cases e1 : spBs P1 x (nI i) p3 r
    · rw [if_pos (by decide), show tBi P1 P2 p3 p4 r x i = false by unfold tBi; rw [e1]; rfl, if_neg (by decide)]
      exact ih (i + 1) (by omega) b c n' (by omega)
    · rw [if_pos rfl, if_neg n10]
      cases e2 : spBs P2 (nI i) x p4 r
      · rw [if_pos (by decide), show tBi P1 P2 p3 p4 r x i = false by unfold tBi; rw [e1, e2]; rfl, if_neg (by decide)]
        exact ih (i + 1) (by omega) b c n' (by omega)
      · rw [if_pos rfl, if_neg n10, show tBi P1 P2 p3 p4 r x i = true by unfold tBi; rw [e1, e2]; rfl, if_pos rfl]
        by_cases z : c = 0
        · rw [if_pos z, if_pos z]
          exact ih (i + 1) (by omega) (vBi x i) (c + 1) n' (by omega)
        · rw [if_neg z, if_neg z]
          exact ih (i + 1) (by omega) b (c + 1) n' (by omega)
def spBo (P1 P2 : Nat) (p3 p4 r : Int32) : Nat → Nat → Int32 → Int32 → Int32 × Int32
  | 0, _, b, c => (b, c)
  | m + 1, i, b, c => spBo P1 P2 p3 p4 r m (i + 1) (spBi (tBi P1 P2 p3 p4 r (nI i)) (vBi (nI i)) (P2 + 1) 0 b c).1 (spBi (tBi P1 P2 p3 p4 r (nI i)) (vBi (nI i)) (P2 + 1) 0 b c).2
theorem v_bo {P1 P2 : Nat} {p3 p4 r : Int32} {σ : ss_M} (k : Int32 → Int32 → ss_M → Option (Int32 × ss_M)) (h1 : P1 ≤ 20) (h2 : P2 ≤ 20) : ∀ m i : Nat, i + m = P1 + 1 → ∀ b c n, m < n → f_X7_bid_L109 (nI P1) (nI P2) p3 p4 r k n b c (nI i) σ = k (spBo P1 P2 p3 p4 r m i b c).1 (spBo P1 P2 p3 p4 r m i b c).2 σ := by
  intro m
  induction m with
  | zero =>
    intro i hi b c n hn
    obtain ⟨n', rfl⟩ : ∃ n', n = n' + 1 := ⟨n - 1, by omega⟩
    rw [f_X7_bid_L109, if_pos (nI_lt (by omega) (by omega)), spBo]
  | succ m ih =>
    intro i hi b c n hn
    obtain ⟨n', rfl⟩ : ∃ n', n = n' + 1 := ⟨n - 1, by omega⟩
    have e := v_bi (p3 := p3) (p4 := p4) (r := r) (x := nI i) (σ := σ) (f_X7_bid_j183 (nI i) (f_X7_bid_L109 (nI P1) (nI P2) p3 p4 r k n')) h1 h2 (P2 + 1) 0 (Nat.zero_add _) b c FU (FU_gt (by omega))
    rw [f_X7_bid_L109, if_neg (nI_nlt (by omega) (by omega)), spBo]
    refine Eq.trans e ?_
    unfold f_X7_bid_j183
    rw [nIa1]
    exact ih (i + 1) (by omega) _ _ n' (by omega)
theorem w_bo {P1 P2 : Nat} {p3 p4 r : Int32} {σ : ss_M} (k : Int32 → Int32 → ss_M → Option (Int32 × ss_M)) (h1 : P1 ≤ 20) (h2 : P2 ≤ 20) : ∀ m i : Nat, i + m = P1 + 1 → ∀ b c n, m < n → f_X8_bid_L92 (nI P1) (nI P2) p3 p4 r k n c b (nI i) σ = k (spBo P1 P2 p3 p4 r m i b c).2 (spBo P1 P2 p3 p4 r m i b c).1 σ := by
  intro m
  induction m with
  | zero =>
    intro i hi b c n hn
    obtain ⟨n', rfl⟩ : ∃ n', n = n' + 1 := ⟨n - 1, by omega⟩
    rw [f_X8_bid_L92, if_pos (nI_lt (by omega) (by omega)), spBo]
  | succ m ih =>
    intro i hi b c n hn
    obtain ⟨n', rfl⟩ : ∃ n', n = n' + 1 := ⟨n - 1, by omega⟩
    have e := w_bi (p3 := p3) (p4 := p4) (r := r) (x := nI i) (σ := σ) (f_X8_bid_j166 (nI i) (f_X8_bid_L92 (nI P1) (nI P2) p3 p4 r k n')) h1 h2 (P2 + 1) 0 (Nat.zero_add _) b c FU (FU_gt (by omega))
    rw [f_X8_bid_L92, if_neg (nI_nlt (by omega) (by omega)), spBo]
    refine Eq.trans e ?_
    unfold f_X8_bid_j166
    rw [nIa1]
    exact ih (i + 1) (by omega) _ _ n' (by omega)
def okBid (p0 p1 p2 p3 p4 p5 : Int32) : Prop := (0 ≤ p0 ∧ p0 ≤ 5) ∧ (0 ≤ p1 ∧ p1 ≤ 20) ∧ (0 ≤ p2 ∧ p2 ≤ 20) ∧ (0 ≤ p3 ∧ p3 ≤ 20) ∧ (0 ≤ p4 ∧ p4 ≤ 20) ∧ (0 ≤ p5 ∧ p5 ≤ 1)
theorem v_j83 (σ : ss_M) : f_X7_bid_j83 σ = some (-10, sGu σ 14 0 (sG σ 14 0 + 1)) := by
  unfold f_X7_bid_j83
  rw [v_bad, ss_bd_e]
theorem v_j54 {p0 p1 p2 p3 p4 p5 s t : Int32} (h : ¬ ((0 ≤ p0 ∧ p0 ≤ 5) ∧ ¬ s = 0 ∧ ¬ t = 0 ∧ (0 ≤ p5 ∧ p5 ≤ 1))) (σ : ss_M) : f_X7_bid_j54 p0 p1 p2 p3 p4 p5 s t σ = some (-10, sGu σ 14 0 (sG σ 14 0 + 1)) := by
  unfold f_X7_bid_j54
  by_cases k0 : 0 ≤ p0 ∧ p0 ≤ 5
  · rw [v_one1 k0, ss_bd_e, if_neg n10]
    by_cases a : s = 0
    · rw [if_pos a]
      exact v_j83 σ
    rw [if_neg a]
    by_cases b : t = 0
    · rw [if_pos b]
      exact v_j83 σ
    rw [if_neg b]
    by_cases k5 : 0 ≤ p5 ∧ p5 ≤ 1
    · exact absurd ⟨k0, a, b, k5⟩ h
    · rw [v_in0 k5, ss_bd_e, if_pos rfl]
      exact v_j83 σ
  · rw [v_one0 k0, ss_bd_e, if_pos rfl]
    exact v_j83 σ
theorem v_j25 {p0 p1 p2 p3 p4 p5 s : Int32} (h : ¬ ((0 ≤ p0 ∧ p0 ≤ 5) ∧ ¬ s = 0 ∧ (0 ≤ p3 ∧ p3 ≤ 20) ∧ (0 ≤ p4 ∧ p4 ≤ 20) ∧ (0 ≤ p5 ∧ p5 ≤ 1))) (σ : ss_M) : f_X7_bid_j25 p0 p1 p2 p3 p4 p5 s σ = some (-10, sGu σ 14 0 (sG σ 14 0 + 1)) := by
  unfold f_X7_bid_j25 f_X7_bid_j53
  by_cases k3 : 0 ≤ p3 ∧ p3 ≤ 20
  · rw [v_in1 k3, ss_bd_e, if_neg n10]
    by_cases k4 : 0 ≤ p4 ∧ p4 ≤ 20
    · rw [v_in1 k4, ss_bd_e, if_neg n10]
      exact v_j54 (fun q => h ⟨q.1, q.2.1, k3, k4, q.2.2.2⟩) σ
    · rw [v_in0 k4, ss_bd_e, if_pos rfl]
      exact v_j54 (fun q => q.2.2.1 rfl) σ
  · rw [v_in0 k3, ss_bd_e, if_pos rfl]
    exact v_j54 (fun q => q.2.2.1 rfl) σ
theorem v_bid0 {p0 p1 p2 p3 p4 p5 : Int32} (h : ¬ okBid p0 p1 p2 p3 p4 p5) (σ : ss_M) : f_X7_bid p0 p1 p2 p3 p4 p5 σ = some (-10, sGu σ 14 0 (sG σ 14 0 + 1)) := by
  unfold f_X7_bid f_X7_bid_j24
  by_cases k1 : 0 ≤ p1 ∧ p1 ≤ 20
  · rw [v_in1 k1, ss_bd_e, if_neg n10]
    by_cases k2 : 0 ≤ p2 ∧ p2 ≤ 20
    · rw [v_in1 k2, ss_bd_e, if_neg n10]
      exact v_j25 (fun q => h ⟨q.1, k1, k2, q.2.2.1, q.2.2.2.1, q.2.2.2.2⟩) σ
    · rw [v_in0 k2, ss_bd_e, if_pos rfl]
      exact v_j25 (fun q => q.2.1 rfl) σ
  · rw [v_in0 k1, ss_bd_e, if_pos rfl]
    exact v_j25 (fun q => q.2.1 rfl) σ
theorem w_j63 {p0 p1 p2 p3 p4 p5 : Int32} (τ : ss_M) : f_X8_bid_j63 p0 p1 p2 p3 p4 p5 τ = some (-10, sAu τ 16 0 (upd (sA τ 16 0) 0 (sA τ 16 0 0 + 1))) := by
  unfold f_X8_bid_j63 f_X8_bid_j64
  rw [if_pos rfl, w_ten, ss_bd_e]
theorem w_bid0 {p0 p1 p2 p3 p4 p5 : Int32} (h : ¬ okBid p0 p1 p2 p3 p4 p5) (τ : ss_M) : f_X8_bid p0 p1 p2 p3 p4 p5 τ = some (-10, sAu τ 16 0 (upd (sA τ 16 0) 0 (sA τ 16 0 0 + 1))) := by
  unfold f_X8_bid
  by_cases k0 : 0 ≤ p0 ∧ p0 ≤ 5
  case neg => rw [w_kd0 k0, ss_bd_e, if_pos rfl]; exact w_j63 τ
  rw [w_kd1 k0, ss_bd_e, if_neg n10]
  by_cases k1 : 0 ≤ p1 ∧ p1 ≤ 20
  case neg => rw [w_in0 k1, ss_bd_e, if_pos rfl]; exact w_j63 τ
  rw [w_in1 k1, ss_bd_e, if_neg n10]
  by_cases k2 : 0 ≤ p2 ∧ p2 ≤ 20
  case neg => rw [w_in0 k2, ss_bd_e, if_pos rfl]; exact w_j63 τ
  rw [w_in1 k2, ss_bd_e, if_neg n10]
  by_cases k3 : 0 ≤ p3 ∧ p3 ≤ 20
  case neg => rw [w_in0 k3, ss_bd_e, if_pos rfl]; exact w_j63 τ
  rw [w_in1 k3, ss_bd_e, if_neg n10]
  by_cases k4 : 0 ≤ p4 ∧ p4 ≤ 20
  case neg => rw [w_in0 k4, ss_bd_e, if_pos rfl]; exact w_j63 τ
  rw [w_in1 k4, ss_bd_e, if_neg n10]
  by_cases k5 : 0 ≤ p5 ∧ p5 ≤ 1
  case neg => rw [w_in0 k5, ss_bd_e, if_pos rfl]; exact w_j63 τ
  exact absurd ⟨k0, k1, k2, k3, k4, k5⟩ h
theorem v_bid1 {n P1 P2 : Nat} {p0 p3 p4 p5 : Int32} {g : pPg} {σ : ss_M} (hn : n ≤ 1000) (hg : gOk n g) (hc : cPg σ 0 g) (k0 : 0 ≤ p0 ∧ p0 ≤ 5) (k1 : 0 ≤ nI P1 ∧ nI P1 ≤ 20) (k2 : 0 ≤ nI P2 ∧ nI P2 ≤ 20) (k3 : 0 ≤ p3 ∧ p3 ≤ 20) (k4 : 0 ≤ p4 ∧ p4 ≤ 20) (k5 : 0 ≤ p5 ∧ p5 ≤ 1) : f_X7_bid p0 (nI P1) (nI P2) p3 p4 p5 σ = f_X7_bid_L109 (nI P1) (nI P2) p3 p4 (nI (spCost p0 g.1.2.1 g.2.2.2.1.2.1)) (f_X7_bid_j189 p5) FU (-1) 0 0 σ := by
  unfold f_X7_bid
  rw [v_in1 k1, ss_bd_e, if_neg n10, v_in1 k2, ss_bd_e, if_neg n10]
  unfold f_X7_bid_j25
  rw [v_in1 k3, ss_bd_e, if_neg n10, v_in1 k4, ss_bd_e, if_neg n10]
  unfold f_X7_bid_j54
  rw [v_one1 k0, ss_bd_e, if_neg n10, if_neg n10, if_neg n10, v_in1 k5, ss_bd_e, if_neg n10, v_costOf hn hg hc, ss_bd_e]
theorem w_bid1 {n P1 P2 : Nat} {p0 p3 p4 p5 : Int32} {g : pPg} {τ : ss_M} (hn : n ≤ 1000) (hg : gOk n g) (hm : mPg τ g) (k0 : 0 ≤ p0 ∧ p0 ≤ 5) (k1 : 0 ≤ nI P1 ∧ nI P1 ≤ 20) (k2 : 0 ≤ nI P2 ∧ nI P2 ≤ 20) (k3 : 0 ≤ p3 ∧ p3 ≤ 20) (k4 : 0 ≤ p4 ∧ p4 ≤ 20) (k5 : 0 ≤ p5 ∧ p5 ≤ 1) : f_X8_bid p0 (nI P1) (nI P2) p3 p4 p5 τ = f_X8_bid_L92 (nI P1) (nI P2) p3 p4 (nI (spCost p0 g.1.2.1 g.2.2.2.1.2.1)) (f_X8_bid_j172 p5) FU 0 (-1) 0 τ := by
  obtain ⟨o1, o2⟩ := kOk_of k0
  unfold f_X8_bid
  rw [w_kd1 k0, ss_bd_e, if_neg n10, w_in1 k1, ss_bd_e, if_neg n10, w_in1 k2, ss_bd_e, if_neg n10, w_in1 k3, ss_bd_e, if_neg n10, w_in1 k4, ss_bd_e, if_neg n10, w_in1 k5, ss_bd_e, if_neg n10]
  unfold f_X8_bid_j64
  rw [if_neg n10, w_costOf hn hg hm o1 o2, ss_bd_e]
theorem v_bo0 {P1 P2 : Nat} {p3 p4 r : Int32} {σ : ss_M} (k : Int32 → Int32 → ss_M → Option (Int32 × ss_M)) (h1 : P1 ≤ 20) (h2 : P2 ≤ 20) : f_X7_bid_L109 (nI P1) (nI P2) p3 p4 r k FU (-1) 0 0 σ = k (spBo P1 P2 p3 p4 r (P1 + 1) 0 (-1) 0).1 (spBo P1 P2 p3 p4 r (P1 + 1) 0 (-1) 0).2 σ := v_bo k h1 h2 (P1 + 1) 0 (Nat.zero_add _) (-1) 0 FU (FU_gt (by omega))
theorem w_bo0 {P1 P2 : Nat} {p3 p4 r : Int32} {σ : ss_M} (k : Int32 → Int32 → ss_M → Option (Int32 × ss_M)) (h1 : P1 ≤ 20) (h2 : P2 ≤ 20) : f_X8_bid_L92 (nI P1) (nI P2) p3 p4 r k FU 0 (-1) 0 σ = k (spBo P1 P2 p3 p4 r (P1 + 1) 0 (-1) 0).2 (spBo P1 P2 p3 p4 r (P1 + 1) 0 (-1) 0).1 σ := w_bo k h1 h2 (P1 + 1) 0 (Nat.zero_add _) (-1) 0 FU (FU_gt (by omega))
theorem sim_bid {n : Nat} {σ τ : ss_M} (hn : n ≤ 1000) (H : Cpl n σ τ) (p0 p1 p2 p3 p4 p5 : Int32) : simI n (f_X7_bid p0 p1 p2 p3 p4 p5 σ) (f_X8_bid p0 p1 p2 p3 p4 p5 τ) := by
  by_cases h : okBid p0 p1 p2 p3 p4 p5
  · obtain ⟨k0, k1, k2, k3, k4, k5⟩ := h
    obtain ⟨g, hg, hc, hm⟩ := H.2.1
    obtain ⟨P1, -, h1, rfl⟩ := i_mid (a := 0) (b := 20) (by omega) k1.1 k1.2 (by omega)
    obtain ⟨P2, -, h2, rfl⟩ := i_mid (a := 0) (b := 20) (by omega) k2.1 k2.2 (by omega)
    rw [v_bid1 hn hg hc k0 k1 k2 k3 k4 k5, w_bid1 hn hg hm k0 k1 k2 k3 k4 k5, v_bo0 _ h1 h2, w_bo0 _ h1 h2]
    generalize spBo P1 P2 p3 p4 (nI (spCost p0 g.1.2.1 g.2.2.2.1.2.1)) (P1 + 1) 0 (-1) 0 = z
    unfold f_X7_bid_j189 f_X8_bid_j172
    by_cases q : p5 = 0
    · rw [if_pos q, if_pos q]
      exact simI.q H rfl rfl
    · rw [if_neg q, if_neg q]
      exact simI.q H rfl rfl
  · rw [v_bid0 h, w_bid0 h]
    exact ⟨_, _, _, rfl, rfl, R_bad H⟩
