/-! calls that put one number -/
theorem sim_breath {n : Nat} {σ τ : ss_M} (H : Cpl n σ τ) (p0 : Int32) : simI n (f_X7_breath p0 σ) (f_X8_breath p0 τ) := by
  by_cases h : 1 ≤ p0 ∧ p0 ≤ 30
  · simp only [f_X7_breath, f_X8_breath, v_br1 h, w_in1 h, ss_bd_e, n10, if_false]
    obtain ⟨g, hg, hc, hm⟩ := H.2.1
    refine ⟨_, _, _, rfl, by rw [hc.1.1, hm.1.1], ?_⟩
    obtain ⟨k, k1, k2, rfl⟩ := i_mid (a := 1) (b := 30) (by omega) h.1 h.2 (by omega)
    refine H.pg (eC_s H.1 (Or.inl rfl) (by omega)) (eM_s (by omega)) ⟨((k, g.1.2), g.2), ?_, ?_, ?_⟩
    · exact ⟨⟨k1, k2⟩, hg.up.2⟩
    · exact ⟨⟨by simp [sG_G], by simp [sG_G]; exact hc.1.2.1, by simp [sG_G]; exact hc.1.2.2.1, by simp [sG_G]; exact hc.1.2.2.2.1, by simp [sG_G]; exact hc.1.2.2.2.2⟩, hc.2.1, hc.2.2.1, by unfold cMk; simp [sG_G, sA_G]; exact hc.2.2.2.1, fun j hj => by unfold cMk; simp [sG_G, sA_G, sR_G]; exact hc.2.2.2.2 j hj⟩
    · exact ⟨⟨by simp [sG_G], by simp [sG_G]; exact hm.1.2.1, by simp [sG_G]; exact hm.1.2.2.1, by simp [sG_G]; exact hm.1.2.2.2.1, by simp [sG_G]; exact hm.1.2.2.2.2⟩, hm.2.1, hm.2.2.1, by unfold mMk; simp [sG_G, sA_G]; exact hm.2.2.2.1, hm.2.2.2.2⟩
  · simp only [f_X7_breath, f_X8_breath, v_br0 h, w_in0 h, ss_bd_e, if_true, v_bad, w_bad]
    exact ⟨_, _, _, rfl, rfl, R_bad H⟩
