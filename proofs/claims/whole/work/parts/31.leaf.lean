/-! leaves: what the small functions answer -/
theorem v_in1 {x a b : Int32} (h : a ≤ x ∧ x ≤ b) (σ : ss_M) : f_X7_isWithin x a b σ = some (1, σ) := by
  unfold f_X7_isWithin
  rw [if_neg (Int32.not_lt.mpr h.1), if_neg (Int32.not_lt.mpr h.2)]
theorem v_in0 {x a b : Int32} (h : ¬ (a ≤ x ∧ x ≤ b)) (σ : ss_M) : f_X7_isWithin x a b σ = some (0, σ) := by
  unfold f_X7_isWithin
  by_cases h1 : x < a
  · rw [if_pos h1]
  · rw [if_neg h1, if_pos (Int32.not_le.mp fun q => h ⟨Int32.not_lt.mp h1, q⟩)]
theorem w_in1 {x a b : Int32} (h : a ≤ x ∧ x ≤ b) (σ : ss_M) : f_X8_in x a b σ = some (1, σ) := by
  unfold f_X8_in
  rw [if_neg (Int32.not_lt.mpr h.1), if_neg (Int32.not_lt.mpr h.2)]
theorem w_in0 {x a b : Int32} (h : ¬ (a ≤ x ∧ x ≤ b)) (σ : ss_M) : f_X8_in x a b σ = some (0, σ) := by
  unfold f_X8_in
  by_cases h1 : x < a
  · rw [if_pos h1]
  · rw [if_neg h1, if_pos (Int32.not_le.mp fun q => h ⟨Int32.not_lt.mp h1, q⟩)]
theorem b_1 : (1 : Int32) &&& 1 = 1 := by decide
theorem b_0 : (0 : Int32) &&& 1 = 0 := by decide
theorem n10 : ¬ (1 : Int32) = 0 := by decide
theorem v_br1 {x : Int32} (h : 1 ≤ x ∧ x ≤ 30) (σ : ss_M) : f_X7_isBreath x σ = some (1, σ) := by simp only [f_X7_isBreath, v_in1 h, ss_bd_e, b_1, if_true]
theorem v_br0 {x : Int32} (h : ¬ (1 ≤ x ∧ x ≤ 30)) (σ : ss_M) : f_X7_isBreath x σ = some (0, σ) := by simp only [f_X7_isBreath, v_in0 h, ss_bd_e, b_0, if_true]
theorem v_pr1 {x : Int32} (h : 1 ≤ x ∧ x ≤ 9) (σ : ss_M) : f_X7_isPrice x σ = some (1, σ) := by simp only [f_X7_isPrice, v_in1 h, ss_bd_e, b_1, if_true]
theorem v_pr0 {x : Int32} (h : ¬ (1 ≤ x ∧ x ≤ 9)) (σ : ss_M) : f_X7_isPrice x σ = some (0, σ) := by simp only [f_X7_isPrice, v_in0 h, ss_bd_e, b_0, if_true]
theorem v_ln1 {x : Int32} (h : 1 ≤ x ∧ x ≤ 9) (σ : ss_M) : f_X7_isLength x σ = some (1, σ) := by simp only [f_X7_isLength, v_in1 h, ss_bd_e, b_1, if_true]
theorem v_ln0 {x : Int32} (h : ¬ (1 ≤ x ∧ x ≤ 9)) (σ : ss_M) : f_X7_isLength x σ = some (0, σ) := by simp only [f_X7_isLength, v_in0 h, ss_bd_e, b_0, if_true]
theorem v_one1 {x : Int32} (h : 0 ≤ x ∧ x ≤ 5) (σ : ss_M) : f_X1_isOne x σ = some (1, σ) := by
  unfold f_X1_isOne
  rw [if_neg (Int32.not_lt.mpr h.1), if_neg (Int32.not_lt.mpr h.2)]
theorem v_one0 {x : Int32} (h : ¬ (0 ≤ x ∧ x ≤ 5)) (σ : ss_M) : f_X1_isOne x σ = some (0, σ) := by
  unfold f_X1_isOne
  by_cases h1 : x < 0
  · rw [if_pos h1]
  · rw [if_neg h1, if_pos (Int32.not_le.mp fun q => h ⟨Int32.not_lt.mp h1, q⟩)]
theorem w_kd1 {x : Int32} (h : 0 ≤ x ∧ x ≤ 5) (σ : ss_M) : f_X8_isKind x σ = some (1, σ) := by simp only [f_X8_isKind, w_in1 h, ss_bd_e, b_1, if_true]
theorem w_kd0 {x : Int32} (h : ¬ (0 ≤ x ∧ x ≤ 5)) (σ : ss_M) : f_X8_isKind x σ = some (0, σ) := by simp only [f_X8_isKind, w_in0 h, ss_bd_e, b_0, if_true]
/-- a piece, by its number as an int -/
def isP (x : Int32) (w : Nat) : Prop := 0 ≤ x ∧ x < nI w
theorem isP_nI {x : Int32} {w : Nat} (hw : w ≤ 12) (h : isP x w) : ∃ i, i < w ∧ x = nI i := by
  have h1 := i_le.mp h.1
  have h2 := i_lt.mp h.2
  rw [tI (by omega)] at h2
  have h0 : (0 : Int32).toInt = 0 := by decide
  rw [h0] at h1
  refine ⟨x.toInt.toNat, by omega, ?_⟩
  rw [i_eq, tI (by omega)]
  omega
theorem isP_of {i w : Nat} (h : i < w) (hw : w ≤ 12) : isP (nI i) w := ⟨nI_pos' (by omega), nI_lt h (by omega)⟩
theorem v_has1 {x : Int32} {σ : ss_M} {p w : Nat} (hw : sG σ 5 p = nI w) (h : isP x w) : f_X4_has p x σ = some (1, σ) := by
  unfold f_X4_has
  rw [if_neg (Int32.not_lt.mpr h.1), hw, if_neg (Int32.not_le.mpr h.2)]
theorem v_has0 {x : Int32} {σ : ss_M} {p w : Nat} (hw : sG σ 5 p = nI w) (h : ¬ isP x w) : f_X4_has p x σ = some (0, σ) := by
  unfold f_X4_has
  by_cases h1 : x < 0
  · rw [if_pos h1]
  · rw [if_neg h1, hw, if_pos (Int32.not_lt.mp fun q => h ⟨Int32.not_lt.mp h1, q⟩)]
theorem isP_le {x : Int32} {w : Nat} (hw : w ≤ 12) : isP x w ↔ (0 ≤ x ∧ x ≤ nI w - 1) := by
  unfold isP
  have e : (nI w - 1).toInt = (w : Int) - 1 := by
    have := pk_sub_toInt (a := w) (b := 1) (by omega) (by omega)
    exact this
  constructor
  · intro h
    refine ⟨h.1, i_le.mpr ?_⟩
    have := i_lt.mp h.2
    rw [tI (by omega)] at this
    omega
  · intro h
    refine ⟨h.1, i_lt.mpr ?_⟩
    have := i_le.mp h.2
    rw [tI (by omega)]
    omega
theorem w_pc1 {x : Int32} {τ : ss_M} {w : Nat} (hw : sG τ 17 0 = nI w) (h12 : w ≤ 12) (h : isP x w) : f_X8_isPiece x τ = some (1, τ) := by
  simp only [f_X8_isPiece, hw, w_in1 ((isP_le h12).mp h), ss_bd_e, b_1, if_true]
theorem w_pc0 {x : Int32} {τ : ss_M} {w : Nat} (hw : sG τ 17 0 = nI w) (h12 : w ≤ 12) (h : ¬ isP x w) : f_X8_isPiece x τ = some (0, τ) := by
  simp only [f_X8_isPiece, hw, w_in0 (fun q => h ((isP_le h12).mpr q)), ss_bd_e, b_0, if_true]
theorem v_bad (x : Int32) (σ : ss_M) : f_X7_bad x σ = some (x, sGu σ 14 0 (sG σ 14 0 + 1)) := rfl
theorem v_no (x : Int32) (σ : ss_M) : f_X7_no x σ = some (x, sGu σ 15 0 (sG σ 15 0 + 1)) := rfl
theorem v_full (x : Int32) (σ : ss_M) : f_X7_full x σ = some (x, sGu σ 16 0 (sG σ 16 0 + 1)) := rfl
theorem g_03 : gd (0 : Int32) 3 = true := by decide
theorem g_13 : gd (1 : Int32) 3 = true := by decide
theorem g_23 : gd (2 : Int32) 3 = true := by decide
theorem c_0 : (0 : Int32).toNatClampNeg = 0 := by decide
theorem c_1 : (1 : Int32).toNatClampNeg = 1 := by decide
theorem c_2 : (2 : Int32).toNatClampNeg = 2 := by decide
theorem w_bad (τ : ss_M) : f_X8_bad τ = some (-2, sAu τ 16 0 (upd (sA τ 16 0) 0 (sA τ 16 0 0 + 1))) := by simp only [f_X8_bad, g_03, if_true, c_0]
theorem w_ten (τ : ss_M) : f_X8_ten τ = some (-10, sAu τ 16 0 (upd (sA τ 16 0) 0 (sA τ 16 0 0 + 1))) := by simp only [f_X8_ten, g_03, if_true, c_0]
theorem w_no (τ : ss_M) : f_X8_no τ = some (-3, sAu τ 16 0 (upd (sA τ 16 0) 1 (sA τ 16 0 1 + 1))) := by simp only [f_X8_no, g_13, if_true, c_1]
theorem w_twenty (τ : ss_M) : f_X8_twenty τ = some (-20, sAu τ 16 0 (upd (sA τ 16 0) 1 (sA τ 16 0 1 + 1))) := by simp only [f_X8_twenty, g_13, if_true, c_1]
theorem w_full (τ : ss_M) : f_X8_full τ = some (-4, sAu τ 16 0 (upd (sA τ 16 0) 2 (sA τ 16 0 2 + 1))) := by simp only [f_X8_full, g_23, if_true, c_2]
/-- both refuse alike -/
theorem R_bad {n : Nat} {σ τ : ss_M} (h : Cpl n σ τ) : Cpl (n + 1) (sGu σ 14 0 (sG σ 14 0 + 1)) (sAu τ 16 0 (upd (sA τ 16 0) 0 (sA τ 16 0 0 + 1))) := h.ct 0 (by decide)
theorem R_no {n : Nat} {σ τ : ss_M} (h : Cpl n σ τ) : Cpl (n + 1) (sGu σ 15 0 (sG σ 15 0 + 1)) (sAu τ 16 0 (upd (sA τ 16 0) 1 (sA τ 16 0 1 + 1))) := h.ct 1 (by decide)
theorem R_full {n : Nat} {σ τ : ss_M} (h : Cpl n σ τ) : Cpl (n + 1) (sGu σ 16 0 (sG σ 16 0 + 1)) (sAu τ 16 0 (upd (sA τ 16 0) 2 (sA τ 16 0 2 + 1))) := h.ct 2 (by decide)
/-- what a call must show -/
def simI (n : Nat) (a b : Option (Int32 × ss_M)) : Prop := ∃ r σ' τ', a = some (r, σ') ∧ b = some (r, τ') ∧ Cpl (n + 1) σ' τ'
def simL (n : Nat) (a b : Option (Int64 × ss_M)) : Prop := ∃ r σ' τ', a = some (r, σ') ∧ b = some (r, τ') ∧ Cpl (n + 1) σ' τ'
theorem pgE_s {p : Nat} {σ : ss_M} {f o : Nat} {v : Int32} (hf : (f < 3 ∨ 7 < f) ∨ o ≠ p) (h01 : 2 ≤ f ∨ (o ≠ p ∧ ¬ (4 + 8 * p ≤ o ∧ o < 12 + 8 * p))) : pgE p σ (sGu σ f o v) := by
  refine ⟨fun f' h1 h2 => by rw [sG_G, if_neg (by omega)], rfl, rfl, rfl, fun k hk => ⟨by rw [sG_G, if_neg (by omega)], by rw [sG_G, if_neg (by omega)], rfl, rfl⟩⟩
theorem pgE_a {p : Nat} {σ : ss_M} {c o : Nat} {v : Nat → Int32} (hf : (c ≠ 4 ∧ c ≠ 5) ∨ o ≠ p) (h01 : 2 ≤ c ∨ (o ≠ p ∧ ¬ (4 + 8 * p ≤ o ∧ o < 12 + 8 * p))) : pgE p σ (sAu σ c o v) := by
  refine ⟨fun f' h1 h2 => rfl, by rw [sA_A, if_neg (by omega)], by rw [sA_A, if_neg (by omega)], rfl, fun k hk => ⟨rfl, rfl, by rw [sA_A, if_neg (by omega)], by rw [sA_A, if_neg (by omega)]⟩⟩
/-- page 0's scalars and marks change: the rest stays -/
theorem eC_s {σ : ss_M} (h : LAY σ) {f o : Nat} {v : Int32} (ho : o = 0 ∨ (4 ≤ o ∧ o < 12)) (hf : f ≤ 7 ∨ (9 ≤ f ∧ f ≤ 13)) : eC σ (sGu σ f o v) :=
  ⟨h, fun p h1 h2 => pgE_s (Or.inr (by omega)) (Or.inr ⟨by omega, by omega⟩), ⟨by rw [sG_G, if_neg (by omega)], rfl⟩, ⟨rfl, rfl⟩, ⟨by rw [sG_G, if_neg (by omega)], by rw [sG_G, if_neg (by omega)], by rw [sG_G, if_neg (by omega)]⟩, rfl⟩
theorem eC_a {σ : ss_M} (h : LAY σ) {c o : Nat} {v : Nat → Int32} (ho : (c ≤ 1 ∧ (o = 0 ∨ (4 ≤ o ∧ o < 12))) ∨ (2 ≤ c ∧ (o = 0 ∨ (c ≠ 4 ∧ c ≠ 5)))) (hc : c ≠ 11 ∧ c ≠ 101) : eC σ (sAu σ c o v) :=
  ⟨h, fun p h1 h2 => pgE_a (by omega) (by omega), ⟨rfl, by rw [sA_A, if_neg (by omega)]⟩, ⟨rfl, rfl⟩, ⟨rfl, rfl, rfl⟩, by rw [sA_A, if_neg (by omega)]⟩
theorem eM_s {τ : ss_M} {f o : Nat} {v : Int32} (hf : f ≠ 23) : eM τ (sGu τ f o v) := ⟨⟨by rw [sG_G, if_neg (by omega)], rfl⟩, ⟨rfl, rfl⟩, rfl, rfl⟩
theorem eM_a {τ : ss_M} {c o : Nat} {v : Nat → Int32} (hc : c ≠ 21 ∧ c ≠ 16 ∧ c ≠ 31) : eM τ (sAu τ c o v) := ⟨⟨rfl, by rw [sA_A, if_neg (by omega)]⟩, ⟨rfl, rfl⟩, by rw [sA_A, if_neg (by omega)], by rw [sA_A, if_neg (by omega)]⟩
