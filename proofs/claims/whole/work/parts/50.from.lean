/-! image, from -/
theorem sA_com (σ : ss_M) {c d : Nat} (h : c ≠ d) (o p : Nat) (a b : Nat → Int32) : sAu (sAu σ c o a) d p b = sAu (sAu σ d p b) c o a := by
  obtain ⟨x, y, z, u, v⟩ := σ
  unfold sAu
  congr 2
  funext c' o'
  by_cases h1 : c' = d ∧ o' = p
  · have : ¬ (c' = c ∧ o' = o) := by omega
    simp [h1]
    intro q
    omega
  · by_cases h2 : c' = c ∧ o' = o
    · simp [h2]
      intro q
      omega
    · simp [h1, h2]
theorem im_s {τ : ss_M} {r : Nat → Int32} {b j : Nat} (h : j < b + 7 ∨ b + 258 ≤ j) : imR τ r b j = upd (upd (upd (upd (upd (upd (upd r b (sG τ 18 0)) (b + 1) (sG τ 19 0)) (b + 2) (sG τ 17 0)) (b + 3) (sG τ 20 0)) (b + 4) (sG τ 21 0)) (b + 5) (sG τ 22 0)) (b + 6) (sG τ 27 0) j := by
  unfold imR tw
  rw [wr_out (by omega), wr_out (by omega), wr_out (by omega), wr_out (by omega), wr_out (by omega)]
theorem im_o {τ : ss_M} {r : Nat → Int32} {b j : Nat} (h : j < b ∨ b + 258 ≤ j) : imR τ r b j = r j := by
  rw [im_s (by omega), upd_n (by omega), upd_n (by omega), upd_n (by omega), upd_n (by omega), upd_n (by omega), upd_n (by omega), upd_n (by omega)]
theorem im_p {τ : ss_M} {r : Nat → Int32} {b x : Nat} (h : x < 208) : imR τ r b (b + 49 + x) = sA τ 23 0 x := by
  unfold imR
  rw [wr_in h]
theorem iPg_im {n k : Nat} {g : pPg} {τ : ss_M} (hg : gOk n g) (h : mPg τ g) : iPg (sAu τ 31 0 (imR τ (sA τ 31 0) (258 * k))) k g := by
  have h12 := hg.2.2.1
  have h6 := hg.2.2.2.1
  have h8 := hg.2.2.2.2.1
  unfold iPg
  rw [sA_m]
  obtain ⟨b, hb⟩ : ∃ b, b = 258 * k := ⟨_, rfl⟩
  rw [← hb]
  refine ⟨⟨?_, ?_, ?_, ?_, ?_⟩, ⟨?_, ?_⟩, fun i hi => ?_, fun i hi => ?_, fun i hi => ?_, fun i hi => ?_, fun j hj => ⟨?_, ?_, fun i hi => ?_, fun i hi => ?_⟩⟩
  · rw [im_s (by omega), upd_n (by omega), upd_n (by omega), upd_n (by omega), upd_n (by omega), upd_n (by omega), upd_n (by omega), upd_m]; exact h.1.1
  · rw [im_s (by omega), upd_n (by omega), upd_n (by omega), upd_n (by omega), upd_n (by omega), upd_n (by omega), upd_m]; exact h.1.2.1
  · rw [im_s (by omega), upd_n (by omega), upd_n (by omega), upd_n (by omega), upd_n (by omega), upd_m]; exact h.1.2.2.1
  · rw [im_s (by omega), upd_n (by omega), upd_m]; exact h.1.2.2.2.1
  · rw [im_s (by omega), upd_m]; exact h.1.2.2.2.2
  · rw [im_s (by omega), upd_n (by omega), upd_n (by omega), upd_n (by omega), upd_m]; exact h.2.2.2.1.1
  · rw [im_s (by omega), upd_n (by omega), upd_n (by omega), upd_m]; exact h.2.2.2.1.2.1
  · unfold imR tw
    rw [wr_out (by omega), wr_out (by omega), wr_out (by omega), wr_out (by omega), wr_in (by omega)]; exact h.2.1 i hi
  · unfold imR tw
    rw [wr_out (by omega), wr_out (by omega), wr_out (by omega), wr_in (by omega)]; exact h.2.2.2.1.2.2.1 i hi
  · unfold imR tw
    rw [wr_out (by omega), wr_out (by omega), wr_in (by omega)]; exact h.2.2.2.1.2.2.2 i hi
  · unfold imR
    rw [wr_out (by omega), wr_in (by omega)]; exact h.2.2.1 i hi
  · rw [im_p (by omega)]; exact (h.2.2.2.2 j hj).1
  · rw [show b + 49 + 26 * j + 1 = b + 49 + (26 * j + 1) by omega, im_p (by omega)]; exact (h.2.2.2.2 j hj).2.1
  · rw [show b + 49 + 26 * j + 2 + i = b + 49 + (26 * j + 2 + i) by omega, im_p (by omega)]; exact (h.2.2.2.2 j hj).2.2.1 i hi
  · rw [show b + 49 + 26 * j + 14 + i = b + 49 + (26 * j + 14 + i) by omega, im_p (by omega)]; exact (h.2.2.2.2 j hj).2.2.2 i hi
theorem iPg_same {n k : Nat} {g : pPg} {τ τ' : ss_M} (hg : gOk n g) (e : ∀ j, 258 * k ≤ j → j < 258 * k + 258 → sA τ' 31 0 j = sA τ 31 0 j) (h : iPg τ k g) : iPg τ' k g := by
  have h12 := hg.2.2.1
  have h6 := hg.2.2.2.1
  have h8 := hg.2.2.2.2.1
  obtain ⟨⟨a1, a2, a3, a4, a5⟩, ⟨a6, a7⟩, a8, a9, a10, a11, a12⟩ := h
  refine ⟨⟨?_, ?_, ?_, ?_, ?_⟩, ⟨?_, ?_⟩, fun i hi => ?_, fun i hi => ?_, fun i hi => ?_, fun i hi => ?_, fun j hj => ⟨?_, ?_, fun i hi => ?_, fun i hi => ?_⟩⟩
  · rw [e _ (by omega) (by omega)]; exact a1
  · rw [e _ (by omega) (by omega)]; exact a2
  · rw [e _ (by omega) (by omega)]; exact a3
  · rw [e _ (by omega) (by omega)]; exact a4
  · rw [e _ (by omega) (by omega)]; exact a5
  · rw [e _ (by omega) (by omega)]; exact a6
  · rw [e _ (by omega) (by omega)]; exact a7
  · rw [e _ (by omega) (by omega)]; exact a8 i hi
  · rw [e _ (by omega) (by omega)]; exact a9 i hi
  · rw [e _ (by omega) (by omega)]; exact a10 i hi
  · rw [e _ (by omega) (by omega)]; exact a11 i hi
  · rw [e _ (by omega) (by omega)]; exact (a12 j hj).1
  · rw [e _ (by omega) (by omega)]; exact (a12 j hj).2.1
  · rw [e _ (by omega) (by omega)]; exact (a12 j hj).2.2.1 i hi
  · rw [e _ (by omega) (by omega)]; exact (a12 j hj).2.2.2 i hi
theorem sim_image {n : Nat} {σ τ : ss_M} (H : Cpl n σ τ) (p0 : Int32) : simI n (f_X7_image p0 σ) (f_X8_image p0 τ) := by
  by_cases h : 0 ≤ p0 ∧ p0 ≤ 1
  · obtain ⟨k, -, hk, rfl⟩ := i_mid (a := 0) (b := 1) (by omega) h.1 h.2 (by omega)
    obtain ⟨hL, ⟨g, hg, hc, hm⟩, ⟨T, t1, t2, t3, t4⟩, ⟨c1, c2⟩, ⟨d1, d2, d3⟩, i0, i1⟩ := H
    obtain ⟨σ1, a1, a2, a3⟩ := v_pcopy (o := 2 + k) (o0 := 0) (by omega) (by omega) (by omega) hL hg hc
    have hL1 := frO_LAY a2 hL
    have e2 : gd (nI k) 2 = true := gd_nI (by omega) (by decide)
    have ek : (nI k).toNatClampNeg = k := nI_clamp (by omega)
    have hp : ∀ p, p < 4 → p ≠ 2 + k → pgE p σ (sAu σ1 101 0 (upd (sA σ1 101 0) k 1)) := fun p h1 h2 => (a2.pg (by omega) h1 h2).tr (pgE_a (by omega) (by omega))
    have f1 : ∀ f k', f ≠ 0 → f ≠ 1 → ¬ (3 ≤ f ∧ f ≤ 7) → sG (sAu σ1 101 0 (upd (sA σ1 101 0) k 1)) f k' = sG σ f k' := fun f k' q1 q2 q3 => a2.1 f k' (by omega)
    have r101 : sA σ1 101 0 = sA σ 101 0 := a2.2.1 101 0 (by omega)
    have im : ∀ k', k' < 2 → cImg n σ τ k' → cImg (n + 1) (sAu σ1 101 0 (upd (sA σ1 101 0) k 1)) (sAu τ 31 0 (imR τ (sA τ 31 0) (258 * k))) k' := by
      intro k' hk' hi
      by_cases e : k' = k
      · subst e
        refine Or.inr ⟨by rw [sA_m, upd_m], g, hg.up, a3.same hL1 (by omega) hg (pgE_a (by omega) (by omega)), iPg_im hg hm⟩
      · have eo : ∀ j, 258 * k' ≤ j → j < 258 * k' + 258 → sA (sAu τ 31 0 (imR τ (sA τ 31 0) (258 * k))) 31 0 j = sA τ 31 0 j := fun j j1 j2 => by
          rw [sA_m, im_o (by omega)]
        rcases hi with ⟨x1, x2⟩ | ⟨x1, g', x2, x3, x4⟩
        · exact Or.inl ⟨by rw [sA_m, upd_n e, r101]; exact x1, by rw [eo _ (by omega) (by omega)]; exact x2⟩
        · exact Or.inr ⟨by rw [sA_m, upd_n e, r101]; exact x1, g', x2.up, x3.same hL (by omega) x2 (hp (2 + k') (by omega) (by omega)), iPg_same x2 eo x4⟩
    refine ⟨1, sAu σ1 101 0 (upd (sA σ1 101 0) k 1), sAu τ 31 0 (imR τ (sA τ 31 0) (258 * k)), ?_, w_image1 (by omega) τ, ?_⟩
    · unfold f_X7_image
      rw [v_in1 h, ss_bd_e, if_neg n10, if_pos e2, ek, a1, Option.bind_some, if_pos e2]
    · refine ⟨hL1, ⟨g, hg.up, hc.same hL (by omega) hg (hp 0 (by omega) (by omega)), hm.same ⟨⟨rfl, rfl, rfl, rfl, rfl, rfl, rfl⟩, by rw [sA_n _ _ (by omega)], by rw [sA_n _ _ (by omega)], by rw [sA_n _ _ (by omega)], by rw [sA_n _ _ (by omega)], by rw [sA_n _ _ (by omega)]⟩⟩, ⟨T, t1, by rw [f1 8 0 (by omega) (by omega) (by omega)]; exact t2, t3, fun i hi => ?_⟩, ⟨?_, ?_⟩, ⟨?_, ?_, ?_⟩, im 0 (by omega) i0, im 1 (by omega) i1⟩
      · rw [sA_n _ _ (by omega), sA_n _ _ (by omega), a2.2.1 11 0 (by omega)]
        exact t4 i hi
      · rw [sL_A, sL_A, a2.2.2.1]; exact c1
      · rw [sL_A, sL_A, a2.2.2.1]; exact c2
      · rw [f1 14 0 (by omega) (by omega) (by omega), sA_n _ _ (by omega)]; exact d1
      · rw [f1 15 0 (by omega) (by omega) (by omega), sA_n _ _ (by omega)]; exact d2
      · rw [f1 16 0 (by omega) (by omega) (by omega), sA_n _ _ (by omega)]; exact d3
  · unfold f_X7_image f_X8_image
    rw [v_in0 h, w_in0 h, ss_bd_e, ss_bd_e, if_pos rfl, if_pos rfl, v_bad, w_bad]
    exact ⟨_, _, _, rfl, rfl, R_bad H⟩
