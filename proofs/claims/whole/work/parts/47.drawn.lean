/-! drawn -/
def sdN (s : Nat) : Nat := (s * 1103515245 + 12345) % 2147483648
def sdL (s : Nat) : Nat := s / 65536 % 9 + 1
theorem sd_lt (s : Nat) : sdN s < 2 ^ 31 := Nat.mod_lt _ (by decide)
theorem sd_x {s : Nat} (h : s < 2 ^ 31) : lN s * 1103515245 + 12345 - (lN s * 1103515245 + 12345) / 2147483648 * 2147483648 = lN (sdN s) := by
  have e1 : (1103515245 : Int64) = lN 1103515245 := rfl
  have e2 : (12345 : Int64) = lN 12345 := rfl
  have e3 : (2147483648 : Int64) = lN 2147483648 := rfl
  rw [e1, e2, e3, lN_mul, lN_add, pk_lRem (by omega) (by decide) (by decide)]
  rfl
theorem sd_l {s : Nat} (h : s < 2 ^ 31) : (lN s / 65536 - lN s / 65536 / 9 * 9).toInt32 + 1 = nI (sdL s) := by
  have e1 : (65536 : Int64) = lN 65536 := rfl
  have e2 : (9 : Int64) = lN 9 := rfl
  rw [e1, e2, pk_lDiv (by omega) (by decide) (by decide), pk_lRem (by omega) (by decide) (by decide), lN_i, nIa1]
  rfl
theorem sdL_b (s : Nat) : 1 ≤ sdL s ∧ sdL s ≤ 9 := by
  have := Nat.mod_lt (s / 65536) (show 9 > 0 by decide)
  unfold sdL
  omega
theorem v_left_m {p i B L : Nat} {σ : ss_M} (h1 : 1 ≤ L) (h2 : L ≤ 9) : f_X4_leftBehind p (nI i) (nI L) (-1) (nI B) σ = some (-1, σ) := by
  unfold f_X4_leftBehind
  rw [if_neg (fun z => by
    have := i_le.mp z
    rw [tI (by omega)] at this
    have e : (-1 : Int32).toInt = -1 := by decide
    omega)]
theorem dr_in {n0 : Nat} {g : pPg} {σ τ : ss_M} (k1 k2 : Int64 → Int32 → ss_M → Option (Int32 × ss_M)) (hg : gOk n0 g) (hc : cPg σ 0 g) (hm : mPg τ g) : ∀ m i : Nat, i + m = g.1.2.2.1 → ∀ (s h : Nat) (al : Bool) (x7 : Int32) (n1 n2 : Nat), s < 2 ^ 31 → h ≤ g.1.1 → (al = true → x7 = nI h) → m < n1 → m < n2 → ∃ (s' h' : Nat) (al' : Bool), s' < 2 ^ 31 ∧ h' ≤ g.1.1 ∧ f_X7_drawn_L54 k1 n1 (lN s) (if al then nI h else -1) (nI i) σ = k1 (lN s') (if al' then nI h' else -1) σ ∧ f_X8_drawn_L52 k2 n2 (lN s) x7 (if al then 1 else 0) (nI i) τ = k2 (lN s') (if al' then 1 else 0) τ := by
  intro m
  have h12 := hg.2.2.1
  have hB := hg.1.2
  induction m with
  | zero =>
    intro i hi s h al x7 n1 n2 hs hh hx hn1 hn2
    obtain ⟨n1', rfl⟩ : ∃ n', n1 = n' + 1 := ⟨n1 - 1, by omega⟩
    obtain ⟨n2', rfl⟩ : ∃ n', n2 = n' + 1 := ⟨n2 - 1, by omega⟩
    refine ⟨s, h, al, hs, hh, ?_, ?_⟩
    · rw [f_X7_drawn_L54, hc.1.2.2.1, if_pos (nI_le (by omega) (by omega))]
    · rw [f_X8_drawn_L52, hm.1.2.2.1, if_pos (nI_le (by omega) (by omega))]
  | succ m ih =>
    intro i hi s h al x7 n1 n2 hs hh hx hn1 hn2
    obtain ⟨n1', rfl⟩ : ∃ n', n1 = n' + 1 := ⟨n1 - 1, by omega⟩
    obtain ⟨n2', rfl⟩ : ∃ n', n2 = n' + 1 := ⟨n2 - 1, by omega⟩
    have e12 : gd (nI i) 12 = true := gd_nI (by omega) (by decide)
    obtain ⟨L1, L9⟩ := sdL_b (sdN s)
    have hwi : ¬ nI g.1.2.2.1 ≤ nI i := lit_nle (by omega) (by omega) (by omega)
    rw [f_X7_drawn_L54, f_X8_drawn_L52, hc.1.2.2.1, hm.1.2.2.1, hc.1.1, if_neg hwi, if_neg hwi, sd_x hs, sd_l (sd_lt s), nIa1]
    unfold f_X8_drawn_j105 f_X8_drawn_j106 f_X8_drawn_j136
    rw [nIa1]
    cases al
    · rw [if_neg (by decide), v_left_m L1 L9, ss_bd_e]
      obtain ⟨s', h', al', d1, d2, d3, d4⟩ := ih (i + 1) (by omega) (sdN s) 0 false 0 n1' n2' (sd_lt s) (by omega) (fun q => absurd q (by decide)) (by omega) (by omega)
      exact ⟨s', h', al', d1, d2, d3, d4⟩
    · rw [if_pos rfl, if_pos rfl, v_left (by omega) (by omega) (by omega) (by omega), ss_bd_e, if_neg n10, hx rfl]
      by_cases q : sdL (sdN s) ≤ h
      · rw [if_pos q, if_neg (show ¬ nI h < nI (sdL (sdN s)) from nI_nlt q (by omega)), if_neg n10, if_pos e12, nI_clamp (by omega), hm.2.2.2.1.2.2.1 i (by omega), hm.1.1, nIs q, w_give (hg.2.2.2.2.2.2.1.2.2 i (by omega)) (by omega) (by omega), ss_bd_e, hc.2.2.2.1.2.2.1 i (by omega)]
        have hgl : spGive (g.2.2.2.1.2.2.1 i) (h - sdL (sdN s)) g.1.1 ≤ g.1.1 := spGive_le (by omega)
        obtain ⟨s', h', al', d1, d2, d3, d4⟩ := ih (i + 1) (by omega) (sdN s) _ true _ n1' n2' (sd_lt s) hgl (fun _ => rfl) (by omega) (by omega)
        exact ⟨s', h', al', d1, d2, d3, d4⟩
      · rw [if_neg q, if_pos (show nI h < nI (sdL (sdN s)) from nI_lt (by omega) (by omega)), if_pos rfl]
        obtain ⟨s', h', al', d1, d2, d3, d4⟩ := ih (i + 1) (by omega) (sdN s) 0 false 0 n1' n2' (sd_lt s) (by omega) (fun q => absurd q (by decide)) (by omega) (by omega)
        exact ⟨s', h', al', d1, d2, d3, d4⟩
theorem dr_out {n0 P : Nat} {g : pPg} {σ τ : ss_M} (hP : P ≤ 60) (hg : gOk n0 g) (hc : cPg σ 0 g) (hm : mPg τ g) : ∀ m j : Nat, j + m = P → ∀ (s : Nat) (cnt : Int32) (n1 n2 : Nat), s < 2 ^ 31 → m < n1 → m < n2 → ∃ r, f_X7_drawn_L36 (nI P) n1 (lN s) cnt (nI j) σ = some (r, σ) ∧ f_X8_drawn_L34 (nI P) n2 (lN s) cnt (nI j) τ = some (r, τ) := by
  intro m
  have h12 := hg.2.2.1
  have hB := hg.1.2
  induction m with
  | zero =>
    intro i hi s cnt n1 n2 hs hn1 hn2
    obtain ⟨n1', rfl⟩ : ∃ n', n1 = n' + 1 := ⟨n1 - 1, by omega⟩
    obtain ⟨n2', rfl⟩ : ∃ n', n2 = n' + 1 := ⟨n2 - 1, by omega⟩
    refine ⟨cnt, ?_, ?_⟩
    · rw [f_X7_drawn_L36, if_pos (nI_le (by omega) (by omega))]
    · rw [f_X8_drawn_L34, if_pos (nI_le (by omega) (by omega))]
  | succ m ih =>
    intro i hi s cnt n1 n2 hs hn1 hn2
    obtain ⟨n1', rfl⟩ : ∃ n', n1 = n' + 1 := ⟨n1 - 1, by omega⟩
    obtain ⟨n2', rfl⟩ : ∃ n', n2 = n' + 1 := ⟨n2 - 1, by omega⟩
    obtain ⟨s', h', al', d1, d2, d3, d4⟩ := dr_in (f_X7_drawn_j122 cnt (nI i) (f_X7_drawn_L36 (nI P) n1')) (f_X8_drawn_j144 cnt (nI i) (f_X8_drawn_L34 (nI P) n2')) hg hc hm g.1.2.2.1 0 (Nat.zero_add _) s g.1.1 true (nI g.1.1) FU FU hs (Nat.le_refl _) (fun _ => rfl) (FU_gt (by omega)) (FU_gt (by omega))
    have e1 : f_X7_drawn_L36 (nI P) (n1' + 1) (lN s) cnt (nI i) σ = f_X7_drawn_j122 cnt (nI i) (f_X7_drawn_L36 (nI P) n1') (lN s') (if al' then nI h' else -1) σ := by
      rw [f_X7_drawn_L36, if_neg (lit_nle (by omega) (by omega) (by omega)), hc.1.1]
      exact d3
    have e2 : f_X8_drawn_L34 (nI P) (n2' + 1) (lN s) cnt (nI i) τ = f_X8_drawn_j144 cnt (nI i) (f_X8_drawn_L34 (nI P) n2') (lN s') (if al' then 1 else 0) τ := by
      rw [f_X8_drawn_L34, if_neg (lit_nle (by omega) (by omega) (by omega)), hm.1.1]
      exact d4
    rw [e1, e2]
    unfold f_X7_drawn_j122 f_X8_drawn_j144 f_X7_drawn_j131 f_X8_drawn_j156
    rw [nIa1]
    cases al'
    · rw [if_neg (show ¬ false = true by decide), if_neg (show ¬ false = true by decide), if_pos rfl, if_pos rfl, Int32.add_zero]
      exact ih (i + 1) (by omega) s' cnt n1' n2' d1 (by omega) (by omega)
    · rw [if_pos rfl, if_pos rfl, if_neg (nm1 (by omega)), if_neg n10]
      exact ih (i + 1) (by omega) s' (cnt + 1) n1' n2' d1 (by omega) (by omega)
theorem sim_drawn {n : Nat} {σ τ : ss_M} (H : Cpl n σ τ) (p0 p1 : Int32) : simI n (f_X7_drawn p0 p1 σ) (f_X8_drawn p0 p1 τ) := by
  obtain ⟨g, hg, hc, hm⟩ := H.2.1
  unfold f_X7_drawn f_X8_drawn f_X7_drawn_j20 f_X8_drawn_j20
  by_cases h : 0 ≤ p0 ∧ p0 ≤ 999999
  · rw [v_in1 h, w_in1 h, ss_bd_e, ss_bd_e, if_neg n10, if_neg n10]
    by_cases h1 : 0 ≤ p1 ∧ p1 ≤ 60
    · rw [v_in1 h1, w_in1 h1, ss_bd_e, ss_bd_e, if_neg n10, if_neg n10]
      obtain ⟨s, -, hs, rfl⟩ := i_mid (a := 0) (b := 999999) (by omega) h.1 h.2 (by omega)
      obtain ⟨P, -, hP, rfl⟩ := i_mid (a := 0) (b := 60) (by omega) h1.1 h1.2 (by omega)
      obtain ⟨r, e1, e2⟩ := dr_out hP hg hc hm P 0 (Nat.zero_add _) s 0 FU FU (by omega) (FU_gt (by omega)) (FU_gt (by omega))
      rw [nI_l (by omega)]
      exact simI.q H e1 e2
    · rw [v_in0 h1, w_in0 h1, ss_bd_e, ss_bd_e, if_pos rfl, if_pos rfl, v_bad, w_bad]
      exact ⟨_, _, _, rfl, rfl, R_bad H⟩
  · rw [v_in0 h, w_in0 h, ss_bd_e, ss_bd_e, if_pos rfl, if_pos rfl, v_bad, w_bad]
    exact ⟨_, _, _, rfl, rfl, R_bad H⟩
