/-! small questions -/
theorem i_01 {x : Int32} (h : 0 ≤ x ∧ x ≤ 1) : x = 0 ∨ x = 1 := by
  obtain ⟨k, -, k2, rfl⟩ := i_mid (a := 0) (b := 1) (by omega) h.1 h.2 (by omega)
  have : k = 0 ∨ k = 1 := by omega
  rcases this with rfl | rfl
  · exact Or.inl rfl
  · exact Or.inr rfl
theorem i_02 {x : Int32} (h : 0 ≤ x ∧ x ≤ 2) : x = 0 ∨ x = 1 ∨ x = 2 := by
  obtain ⟨k, -, k2, rfl⟩ := i_mid (a := 0) (b := 2) (by omega) h.1 h.2 (by omega)
  have : k = 0 ∨ k = 1 ∨ k = 2 := by omega
  rcases this with rfl | rfl | rfl
  · exact Or.inl rfl
  · exact Or.inr (Or.inl rfl)
  · exact Or.inr (Or.inr rfl)
theorem i_03 {x : Int32} (h : 0 ≤ x ∧ x ≤ 3) : x = 0 ∨ x = 1 ∨ x = 2 ∨ x = 3 := by
  obtain ⟨k, -, k2, rfl⟩ := i_mid (a := 0) (b := 3) (by omega) h.1 h.2 (by omega)
  have : k = 0 ∨ k = 1 ∨ k = 2 ∨ k = 3 := by omega
  rcases this with rfl | rfl | rfl | rfl
  · exact Or.inl rfl
  · exact Or.inr (Or.inl rfl)
  · exact Or.inr (Or.inr (Or.inl rfl))
  · exact Or.inr (Or.inr (Or.inr rfl))
theorem simI.q {n : Nat} {σ τ : ss_M} (H : Cpl n σ τ) {a b : Option (Int32 × ss_M)} {r : Int32} (h1 : a = some (r, σ)) (h2 : b = some (r, τ)) : simI n a b := ⟨r, σ, τ, h1, h2, H.q (QC.rf H.1) QM.rf⟩
theorem sim_of {n : Nat} {σ τ : ss_M} (hn : n ≤ 1000) (H : Cpl n σ τ) (p0 p1 : Int32) : simI n (f_X7_of p0 p1 σ) (f_X8_of p0 p1 τ) := by
  obtain ⟨g, hg, hc, hm⟩ := H.2.1
  have e5 : sG σ 5 0 = nI g.1.2.2.1 := hc.1.2.2.1
  have m5 : sG τ 17 0 = nI g.1.2.2.1 := hm.1.2.2.1
  have h12 := hg.2.2.1
  by_cases h : isP p0 g.1.2.2.1
  · by_cases h2 : 0 ≤ p1 ∧ p1 ≤ 3
    · obtain ⟨i, hi, rfl⟩ := isP_nI h12 h
      have hi12 : i < 12 := by omega
      have l1 := hc.2.1 i hi
      have l2 := hm.2.1 i hi
      have ki := hc.2.2.2.1.2.2.1 i hi
      have mi := hm.2.2.2.1.2.2.1 i hi
      have ri := hc.2.2.2.1.2.2.2 i hi
      have si := hm.2.2.2.1.2.2.2 i hi
      have kk : kOk (g.2.2.2.1.2.2.1 i) := hg.2.2.2.2.2.2.1.2.2 i hi
      simp only [f_X7_of, f_X8_of, v_has1 e5 h, w_pc1 m5 h12 h, w_in1 h2, ss_bd_e, n10, if_false, gd_nI hi12 (show 12 < 2 ^ 31 by decide), if_true, v_costOf hn hg hc, nI_clamp (show i < 2 ^ 31 by omega), l1, l2, ki, mi, ri, si]
      rcases i_03 h2 with rfl | rfl | rfl | rfl
      · exact simI.q (r := nI (g.2.1 i)) H (by simp) (by simp)
      · exact simI.q (r := g.2.2.2.1.2.2.1 i) H (by simp) (by simp)
      · exact simI.q (r := g.2.2.2.1.2.2.2 i) H (by simp) (by simp)
      · by_cases hz : g.2.2.2.1.2.2.1 i = -1
        · exact simI.q (r := 0) H (by simp [hz, spCost]; rfl) (by simp [hz])
        · exact simI.q (r := nI (spCost (g.2.2.2.1.2.2.1 i) g.1.2.1 g.2.2.2.1.2.1)) H (by simp) (by simp [hz, w_costOf hn hg hm kk hz, ss_bd_e])
    · have q0 : ¬ p1 = 0 := fun q => h2 (by rw [q]; decide)
      have q1 : ¬ p1 = 1 := fun q => h2 (by rw [q]; decide)
      have q2 : ¬ p1 = 2 := fun q => h2 (by rw [q]; decide)
      have q3 : ¬ p1 = 3 := fun q => h2 (by rw [q]; decide)
      simp only [f_X7_of, f_X8_of, f_X8_of_j17, v_has1 e5 h, w_pc1 m5 h12 h, w_in0 h2, ss_bd_e, n10, if_false, if_true, q0, q1, q2, q3, v_bad, w_ten]
      exact ⟨_, _, _, rfl, rfl, R_bad H⟩
  · simp only [f_X7_of, f_X8_of, f_X8_of_j17, v_has0 e5 h, w_pc0 m5 h12 h, ss_bd_e, if_true, v_bad, w_ten]
    exact ⟨_, _, _, rfl, rfl, R_bad H⟩
theorem sim_costs {n : Nat} {σ τ : ss_M} (hn : n ≤ 1000) (H : Cpl n σ τ) (p0 : Int32) : simI n (f_X7_costs p0 σ) (f_X8_costs p0 τ) := by
  obtain ⟨g, hg, hc, hm⟩ := H.2.1
  by_cases h : 0 ≤ p0 ∧ p0 ≤ 5
  · obtain ⟨k1, k2⟩ := kOk_of h
    simp only [f_X7_costs, f_X8_costs, v_one1 h, w_kd1 h, ss_bd_e, n10, if_false, v_costOf hn hg hc, w_costOf hn hg hm k1 k2]
    exact simI.q H rfl rfl
  · simp only [f_X7_costs, f_X8_costs, v_one0 h, w_kd0 h, ss_bd_e, if_true, v_bad, w_bad]
    exact ⟨_, _, _, rfl, rfl, R_bad H⟩
theorem sim_gives {n : Nat} {σ τ : ss_M} (H : Cpl n σ τ) (p0 p1 : Int32) : simI n (f_X7_gives p0 p1 σ) (f_X8_gives p0 p1 τ) := by
  obtain ⟨g, hg, hc, hm⟩ := H.2.1
  have eB := hc.1.1
  have mB := hm.1.1
  have hB := hg.1.2
  by_cases h : 0 ≤ p0 ∧ p0 ≤ 5
  · obtain ⟨k1, k2⟩ := kOk_of h
    by_cases h2 : 0 ≤ p1 ∧ p1 ≤ nI g.1.1
    · obtain ⟨k, -, q2, rfl⟩ := i_mid (a := 0) (b := g.1.1) (by omega) h2.1 h2.2 (by omega)
      simp only [f_X7_gives, f_X8_gives, v_one1 h, w_kd1 h, ss_bd_e, n10, if_false, eB, mB, v_in1 h2, w_in1 h2, v_give (show k ≤ 1000 by omega) (show g.1.1 ≤ 1000 by omega), w_give k1 (show k ≤ 1000 by omega) (show g.1.1 ≤ 1000 by omega)]
      exact simI.q H rfl rfl
    · simp only [f_X7_gives, f_X8_gives, f_X7_gives_j22, f_X8_gives_j31, v_one1 h, w_kd1 h, ss_bd_e, n10, if_false, if_true, eB, mB, v_in0 h2, w_in0 h2, v_bad, w_bad]
      exact ⟨_, _, _, rfl, rfl, R_bad H⟩
  · simp only [f_X7_gives, f_X8_gives, f_X7_gives_j22, f_X8_gives_j31, v_one0 h, w_kd0 h, ss_bd_e, if_true, v_bad, w_bad]
    exact ⟨_, _, _, rfl, rfl, R_bad H⟩
theorem sim_part {n : Nat} {σ τ : ss_M} (H : Cpl n σ τ) (p0 : Int32) : simL n (f_X7_part p0 σ) (f_X8_part p0 τ) := by
  have c := H.2.2.2.1
  by_cases h : 0 ≤ p0 ∧ p0 ≤ 1
  · simp only [f_X7_part, f_X8_part, v_in1 h, ss_bd_e, n10, if_false]
    rcases i_01 h with rfl | rfl
    · exact ⟨sL σ 0, σ, τ, by simp, by simp [c.1], H.q (QC.rf H.1) QM.rf⟩
    · exact ⟨sL σ 1, σ, τ, by simp, by simp [c.2], H.q (QC.rf H.1) QM.rf⟩
  · have q0 : ¬ p0 = 0 := fun q => h (by rw [q]; decide)
    have q1 : ¬ p0 = 1 := fun q => h (by rw [q]; decide)
    simp only [f_X7_part, f_X8_part, v_in0 h, ss_bd_e, if_true, q0, q1, if_false, v_bad, w_bad]
    exact ⟨_, _, _, rfl, rfl, R_bad H⟩
theorem sim_status {n : Nat} {σ τ : ss_M} (H : Cpl n σ τ) (p0 : Int32) : simI n (f_X7_status p0 σ) (f_X8_status p0 τ) := by
  obtain ⟨d1, d2, d3⟩ := H.2.2.2.2.1
  by_cases h : 0 ≤ p0 ∧ p0 ≤ 2
  · simp only [f_X7_status, f_X8_status, w_in1 h, ss_bd_e, n10, if_false]
    rcases i_02 h with rfl | rfl | rfl
    · exact simI.q (r := sG σ 14 0) H (by simp) (by rw [g_03, c_0, if_pos rfl, d1])
    · exact simI.q (r := sG σ 15 0) H (by simp) (by rw [g_13, c_1, if_pos rfl, d2])
    · exact simI.q (r := sG σ 16 0) H (by simp) (by rw [g_23, c_2, if_pos rfl, d3])
  · have q0 : ¬ p0 = 0 := fun q => h (by rw [q]; decide)
    have q1 : ¬ p0 = 1 := fun q => h (by rw [q]; decide)
    have q2 : ¬ p0 = 2 := fun q => h (by rw [q]; decide)
    simp only [f_X7_status, f_X8_status, w_in0 h, ss_bd_e, if_true, q0, q1, q2, if_false, v_bad, g_03, c_0]
    exact ⟨_, _, _, rfl, rfl, R_bad H⟩
