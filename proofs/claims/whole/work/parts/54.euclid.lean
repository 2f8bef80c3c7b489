/-! Euclid -/
theorem cmp_0 (x : Int64) : lg_cmp x 0 = 0 ↔ x = 0 := by
  unfold lg_cmp
  constructor
  · intro h
    split at h
    · exact absurd h (by decide)
    · split at h
      · assumption
      · exact absurd h (by decide)
  · intro h
    subst h
    decide
theorem eu_step {a b : Nat} (ha : a < 2 ^ 62) (h0 : 0 < b) (hb : b < 2 ^ 62) : lN a - lN a / lN b * lN b = lN (a % b) := pk_lRem (by omega) h0 (by omega)
theorem lN_n0 {b : Nat} (h0 : 0 < b) (hb : b < 2 ^ 62) : ¬ lN b = 0 := fun q => by
  have := (pk_lEQ (a := b) (b := 0) (by omega) (by decide)).mp q
  omega
theorem v_eu (k9 : Int64 → ss_M → Option ss_M) (σ : ss_M) : ∀ k a b : Nat, b < 2 ^ k → a < 2 ^ 62 → b < 2 ^ 62 → ∀ c n, c + 2 * k < 1000 → 2 * k < n → f_X0_setLowest_L9 k9 n (lN a) (lN b) (nI c) σ = k9 (lN (Nat.gcd b a)) σ := by
  intro k
  have z : ∀ a c n, c < 1000 → 0 < n → f_X0_setLowest_L9 k9 n (lN a) (lN 0) (nI c) σ = k9 (lN (Nat.gcd 0 a)) σ := by
    intro a c n hc hn
    obtain ⟨n', rfl⟩ : ∃ n', n = n' + 1 := ⟨n - 1, by omega⟩
    rw [f_X0_setLowest_L9, if_neg (lnle 1000 1000 (i := c) (by omega)), if_pos ((cmp_0 (lN 0)).mpr rfl), Nat.gcd_zero_left]
  have s : ∀ a b c n, 0 < b → a < 2 ^ 62 → b < 2 ^ 62 → c < 1000 → f_X0_setLowest_L9 k9 (n + 1) (lN a) (lN b) (nI c) σ = f_X0_setLowest_L9 k9 n (lN b) (lN (a % b)) (nI (c + 1)) σ := by
    intro a b c n h0 ha hb hc
    have q := lN_n0 h0 hb
    rw [f_X0_setLowest_L9, if_neg (lnle 1000 1000 (i := c) (by omega)), if_neg (fun y => q ((cmp_0 _).mp y)), if_pos q, eu_step ha h0 hb, nIa1]
  induction k with
  | zero =>
    intro a b h1 ha hb c n hc hn
    have : b = 0 := by omega
    subst this
    exact z a c n (by omega) (by omega)
  | succ k ih =>
    intro a b h1 ha hb c n hc hn
    by_cases h0 : b = 0
    · subst h0
      exact z a c n (by omega) (by omega)
    · obtain ⟨n', rfl⟩ : ∃ n', n = n' + 1 := ⟨n - 1, by omega⟩
      have r1 := Nat.mod_lt a (show b > 0 by omega)
      have p2 : 2 ^ (k + 1) = 2 * 2 ^ k := by rw [Nat.pow_succ, Nat.mul_comm]
      rw [s a b c n' (by omega) ha hb (by omega), Nat.gcd_rec b a]
      by_cases h2 : a % b < 2 ^ k
      · exact ih b (a % b) h2 hb (by omega) (c + 1) n' (by omega) (by omega)
      · obtain ⟨n2, rfl⟩ : ∃ n2, n' = n2 + 1 := ⟨n' - 1, by omega⟩
        have h3 : 0 < a % b := by have := Nat.two_pow_pos k; omega
        have r2 : b % (a % b) < 2 ^ k := by
          have e := Nat.mod_eq_sub_mod (show b ≥ a % b by omega)
          have l := Nat.mod_le (b - a % b) (a % b)
          omega
        rw [s b (a % b) (c + 1) n2 h3 hb (by omega) (by omega), Nat.gcd_rec (a % b) b]
        exact ih (a % b) (b % (a % b)) r2 (by omega) (by omega) (c + 1 + 1) n2 (by omega) (by omega)
theorem w_eu (k6 : Int64 → ss_M → Option ss_M) (σ : ss_M) : ∀ k a b : Nat, b < 2 ^ k → a < 2 ^ 62 → b < 2 ^ 62 → ∀ n, 2 * k < n → f_X8_lay_L6 k6 n (lN a) (lN b) σ = k6 (lN (Nat.gcd b a)) σ := by
  intro k
  have z : ∀ a n, 0 < n → f_X8_lay_L6 k6 n (lN a) (lN 0) σ = k6 (lN (Nat.gcd 0 a)) σ := by
    intro a n hn
    obtain ⟨n', rfl⟩ : ∃ n', n = n' + 1 := ⟨n - 1, by omega⟩
    rw [f_X8_lay_L6, if_pos ((cmp_0 (lN 0)).mpr rfl), Nat.gcd_zero_left]
  have s : ∀ a b n, 0 < b → a < 2 ^ 62 → b < 2 ^ 62 → f_X8_lay_L6 k6 (n + 1) (lN a) (lN b) σ = f_X8_lay_L6 k6 n (lN b) (lN (a % b)) σ := by
    intro a b n h0 ha hb
    have q := lN_n0 h0 hb
    rw [f_X8_lay_L6, if_neg (fun y => q ((cmp_0 _).mp y)), if_pos q, eu_step ha h0 hb]
  induction k with
  | zero =>
    intro a b h1 ha hb n hn
    have : b = 0 := by omega
    subst this
    exact z a n (by omega)
  | succ k ih =>
    intro a b h1 ha hb n hn
    by_cases h0 : b = 0
    · subst h0
      exact z a n (by omega)
    · obtain ⟨n', rfl⟩ : ∃ n', n = n' + 1 := ⟨n - 1, by omega⟩
      have r1 := Nat.mod_lt a (show b > 0 by omega)
      have p2 : 2 ^ (k + 1) = 2 * 2 ^ k := by rw [Nat.pow_succ, Nat.mul_comm]
      rw [s a b n' (by omega) ha hb, Nat.gcd_rec b a]
      by_cases h2 : a % b < 2 ^ k
      · exact ih b (a % b) h2 hb (by omega) n' (by omega)
      · obtain ⟨n2, rfl⟩ : ∃ n2, n' = n2 + 1 := ⟨n' - 1, by omega⟩
        have h3 : 0 < a % b := by have := Nat.two_pow_pos k; omega
        have r2 : b % (a % b) < 2 ^ k := by
          have e := Nat.mod_eq_sub_mod (show b ≥ a % b by omega)
          have l := Nat.mod_le (b - a % b) (a % b)
          omega
        rw [s b (a % b) n2 h3 hb (by omega), Nat.gcd_rec (a % b) b]
        exact ih (a % b) (b % (a % b)) r2 (by omega) (by omega) n2 (by omega)
theorem v_lowest {s t : Nat} (hs : s < 2 ^ 62) (ht : t < 2 ^ 62) (h0 : 0 < t) (σ : ss_M) : f_X0_setLowest (lN s) (lN t) σ = some (sLu (sLu σ 0 (lN s / lN (Nat.gcd s t))) 1 (lN t / lN (Nat.gcd s t))) := by
  have g0 : 0 < Nat.gcd s t := Nat.gcd_pos_of_pos_right s h0
  have g1 : Nat.gcd s t ≤ t := Nat.gcd_le_right s h0
  have q := lN_n0 g0 (by omega)
  have e := v_eu (f_X0_setLowest_j45 (lN s) (lN t)) σ 62 t s hs ht hs 0 FU (by decide) (FU_gt (by decide))
  unfold f_X0_setLowest
  refine Eq.trans e ?_
  unfold f_X0_setLowest_j45 f_X0_setLowest_j61 f_X0_setLowest_j80
  rw [if_neg (fun y => q ((cmp_0 _).mp y)), if_pos q, if_neg (fun y => q ((cmp_0 _).mp y)), if_pos q]
theorem w_lowest {s t : Nat} (hs : s < 2 ^ 62) (ht : t < 2 ^ 62) (h0 : 0 < t) (τ : ss_M) : f_X8_lay (lN s) (lN t) τ = some (sLu (sLu τ 2 (lN s / lN (Nat.gcd s t))) 3 (lN t / lN (Nat.gcd s t))) := by
  have g0 : 0 < Nat.gcd s t := Nat.gcd_pos_of_pos_right s h0
  have g1 : Nat.gcd s t ≤ t := Nat.gcd_le_right s h0
  have q := lN_n0 g0 (by omega)
  have e := w_eu (f_X8_lay_j31 (lN s) (lN t)) τ 62 s t ht hs ht FU (FU_gt (by decide))
  unfold f_X8_lay
  refine Eq.trans e ?_
  rw [Nat.gcd_comm t s]
  unfold f_X8_lay_j31
  rw [if_pos q, if_pos q]
