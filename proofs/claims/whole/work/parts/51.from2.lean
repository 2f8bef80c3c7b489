/-! from -/
theorem fr_L119 (k : Int32 → ss_M → Option (Int32 × ss_M)) (τ : ss_M) (r1 r2 r3 : Nat → Int32) (b : Nat) (hb : b ≤ 258) : ∀ m i : Nat, i + m = 12 → ∀ n, m < n → f_X8_from_L119 k n (nI b) (nI i) (sAu (sAu (sAu τ 17 0 (bks r1 (sA τ 31 0) (b + 7) i)) 18 0 (bks r2 (sA τ 31 0) (b + 19) i)) 19 0 (bks r3 (sA τ 31 0) (b + 31) i)) = k (nI b) (sAu (sAu (sAu τ 17 0 (bks r1 (sA τ 31 0) (b + 7) 12)) 18 0 (bks r2 (sA τ 31 0) (b + 19) 12)) 19 0 (bks r3 (sA τ 31 0) (b + 31) 12)) := by
  intro m
  induction m with
  | zero =>
    intro i hi n hn
    obtain ⟨n', rfl⟩ : ∃ n', n = n' + 1 := ⟨n - 1, by omega⟩
    have : i = 12 := by omega
    subst this
    rw [f_X8_from_L119, if_pos (lle 12 12 (i := 12) (by decide) (by decide))]
  | succ m ih =>
    intro i hi n hn
    obtain ⟨n', rfl⟩ : ∃ n', n = n' + 1 := ⟨n - 1, by omega⟩
    have e1 : nI b + 7 + nI i = nI (b + 7 + i) := by rw [show nI b + 7 = nI (b + 7) from nI_add b 7, nI_add]
    have e2 : nI b + 19 + nI i = nI (b + 19 + i) := by rw [show nI b + 19 = nI (b + 19) from nI_add b 19, nI_add]
    have e3 : nI b + 31 + nI i = nI (b + 31 + i) := by rw [show nI b + 31 = nI (b + 31) from nI_add b 31, nI_add]
    have e12 : gd (nI i) 12 = true := gd_nI (by omega) (by decide)
    have g1 : gd (nI (b + 7 + i)) 516 = true := gd_nI (by omega) (by decide)
    have g2 : gd (nI (b + 19 + i)) 516 = true := gd_nI (by omega) (by decide)
    have g3 : gd (nI (b + 31 + i)) 516 = true := gd_nI (by omega) (by decide)
    have d1 : (nI (b + 7 + i)).toNatClampNeg = b + 7 + i := nI_clamp (by omega)
    have d2 : (nI (b + 19 + i)).toNatClampNeg = b + 19 + i := nI_clamp (by omega)
    have d3 : (nI (b + 31 + i)).toNatClampNeg = b + 31 + i := nI_clamp (by omega)
    have d4 : (nI i).toNatClampNeg = i := nI_clamp (by omega)
    obtain ⟨X, hX⟩ : ∃ X, X = sAu (sAu (sAu τ 17 0 (bks r1 (sA τ 31 0) (b + 7) i)) 18 0 (bks r2 (sA τ 31 0) (b + 19) i)) 19 0 (bks r3 (sA τ 31 0) (b + 31) i) := ⟨_, rfl⟩
    have x17 : sA X 17 0 = bks r1 (sA τ 31 0) (b + 7) i := by rw [hX, sA_n _ _ (by omega), sA_n _ _ (by omega), sA_m]
    have x18 : sA X 18 0 = bks r2 (sA τ 31 0) (b + 19) i := by rw [hX, sA_n _ _ (by omega), sA_m]
    have x19 : sA X 19 0 = bks r3 (sA τ 31 0) (b + 31) i := by rw [hX, sA_m]
    have x31 : sA X 31 0 = sA τ 31 0 := by rw [hX, sA_n _ _ (by omega), sA_n _ _ (by omega), sA_n _ _ (by omega)]
    have q1 : ∀ Z v, sA (sAu Z 17 0 v) 18 0 = sA Z 18 0 := fun Z v => by rw [sA_n _ _ (by omega)]
    have q2 : ∀ Z v, sA (sAu Z 17 0 v) 19 0 = sA Z 19 0 := fun Z v => by rw [sA_n _ _ (by omega)]
    have q3 : ∀ Z v, sA (sAu Z 17 0 v) 31 0 = sA Z 31 0 := fun Z v => by rw [sA_n _ _ (by omega)]
    have q4 : ∀ Z v, sA (sAu Z 18 0 v) 19 0 = sA Z 19 0 := fun Z v => by rw [sA_n _ _ (by omega)]
    have q5 : ∀ Z v, sA (sAu Z 18 0 v) 31 0 = sA Z 31 0 := fun Z v => by rw [sA_n _ _ (by omega)]
    rw [← hX, f_X8_from_L119, if_neg (lnle 12 12 (i := i) (by omega)), e1, e2, e3, if_pos g1, if_pos e12, if_pos g2, if_pos e12, ss_let, if_pos g3, if_pos e12, d1, d2, d3, d4, nIa1]
    simp only [q1, q2, q3, q4, q5, x17, x18, x19, x31]
    rw [bks_s, bks_s, bks_s]
    have fin : ∀ A B C, sAu (sAu (sAu X 17 0 A) 18 0 B) 19 0 C = sAu (sAu (sAu τ 17 0 A) 18 0 B) 19 0 C := fun A B C => by
      rw [hX, sA_com _ (show 19 ≠ 17 by omega), sA_com _ (show 18 ≠ 17 by omega), sA_2, sA_com _ (show 19 ≠ 18 by omega), sA_2, sA_2]
    rw [fin]
    exact ih (i + 1) (by omega) n' (by omega)
theorem fr_L184 (k : ss_M → Option (Int32 × ss_M)) (τ : ss_M) (r : Nat → Int32) (b : Nat) (hb : b ≤ 258) : ∀ m i : Nat, i + m = 6 → ∀ n, m < n → f_X8_from_L184 (nI b) k n (nI i) (sAu τ 20 0 (bks r (sA τ 31 0) (b + 43) i)) = k (sAu τ 20 0 (bks r (sA τ 31 0) (b + 43) 6)) := by
  intro m
  induction m with
  | zero =>
    intro i hi n hn
    obtain ⟨n', rfl⟩ : ∃ n', n = n' + 1 := ⟨n - 1, by omega⟩
    have : i = 6 := by omega
    subst this
    rw [f_X8_from_L184, if_pos (lle 6 6 (i := 6) (by decide) (by decide))]
  | succ m ih =>
    intro i hi n hn
    obtain ⟨n', rfl⟩ : ∃ n', n = n' + 1 := ⟨n - 1, by omega⟩
    have e1 : nI b + 43 + nI i = nI (b + 43 + i) := by rw [show nI b + 43 = nI (b + 43) from nI_add b 43, nI_add]
    have q1 : ∀ v, sA (sAu τ 20 0 v) 31 0 = sA τ 31 0 := fun v => by rw [sA_n _ _ (by omega)]
    have d1 : (nI (b + 43 + i)).toNatClampNeg = b + 43 + i := nI_clamp (by omega)
    have d4 : (nI i).toNatClampNeg = i := nI_clamp (by omega)
    rw [f_X8_from_L184, if_neg (lnle 6 6 (i := i) (by omega)), e1, if_pos (gd_nI (by omega) (by decide)), if_pos (gd_nI (by omega) (by decide)), d1, d4, nIa1, sA_m, sA_2, q1, bks_s]
    exact ih (i + 1) (by omega) n' (by omega)
theorem fr_L215 (τ : ss_M) (r : Nat → Int32) (b : Nat) (hb : b ≤ 258) : ∀ m i : Nat, i + m = 208 → ∀ n, m < n → f_X8_from_L215 (nI b) n (nI i) (sAu τ 23 0 (bks r (sA τ 31 0) (b + 49) i)) = some (1, sAu τ 23 0 (bks r (sA τ 31 0) (b + 49) 208)) := by
  intro m
  induction m with
  | zero =>
    intro i hi n hn
    obtain ⟨n', rfl⟩ : ∃ n', n = n' + 1 := ⟨n - 1, by omega⟩
    rw [f_X8_from_L215, if_pos (lle 208 208 (i := i) (by omega) (by omega)), show i = 208 by omega]
  | succ m ih =>
    intro i hi n hn
    obtain ⟨n', rfl⟩ : ∃ n', n = n' + 1 := ⟨n - 1, by omega⟩
    have e1 : nI b + 49 + nI i = nI (b + 49 + i) := by rw [show nI b + 49 = nI (b + 49) from nI_add b 49, nI_add]
    have q1 : ∀ v, sA (sAu τ 23 0 v) 31 0 = sA τ 31 0 := fun v => by rw [sA_n _ _ (by omega)]
    have d1 : (nI (b + 49 + i)).toNatClampNeg = b + 49 + i := nI_clamp (by omega)
    have d4 : (nI i).toNatClampNeg = i := nI_clamp (by omega)
    rw [f_X8_from_L215, if_neg (lnle 208 208 (i := i) (by omega)), e1, if_pos (gd_nI (by omega) (by decide)), if_pos (gd_nI (by omega) (by decide)), d1, d4, nIa1, sA_m, sA_2, q1, bks_s]
    exact ih (i + 1) (by omega) n' (by omega)
theorem bks_in {r s : Nat → Int32} {b i j : Nat} (h : j < i) : bks r s b i j = s (b + j) := by unfold bks; rw [if_pos h]
theorem w_from1 {n k : Nat} {g : pPg} {τ : ss_M} (hk : k < 2) (hg : gOk n g) (h : iPg τ k g) : ∃ τ', f_X8_from (nI k) τ = some (1, τ') ∧ eM τ τ' ∧ mPg τ' g := by
  have h12 := hg.2.2.1
  have h6 := hg.2.2.2.1
  have h8 := hg.2.2.2.2.1
  have hbk : 258 * k ≤ 258 := by omega
  unfold iPg at h
  obtain ⟨b, hbd⟩ : ∃ b, b = 258 * k := ⟨_, rfl⟩
  rw [← hbd] at hbk h
  obtain ⟨⟨a1, a2, a3, a4, a5⟩, ⟨a6, a7⟩, a8, a9, a10, a11, a12⟩ := h
  have e0 : (258 : Int32) * nI k = nI b := by rw [hbd]; exact pk_mul 258 k
  have e1 : nI b + 1 = nI (b + 1) := nI_add b 1
  have e2 : nI b + 2 = nI (b + 2) := nI_add b 2
  have e3 : nI b + 3 = nI (b + 3) := nI_add b 3
  have e4 : nI b + 4 = nI (b + 4) := nI_add b 4
  have e5 : nI b + 5 = nI (b + 5) := nI_add b 5
  have e6 : nI b + 6 = nI (b + 6) := nI_add b 6
  have hr : 0 ≤ nI k ∧ nI k ≤ 1 := ⟨nI_pos' (by omega), rle 1 1 (by omega)⟩
  obtain ⟨X, hX⟩ : ∃ X, X = sGu (sGu (sGu (sGu (sGu (sGu (sGu τ 18 0 (nI g.1.1)) 19 0 (nI g.1.2.1)) 17 0 (nI g.1.2.2.1)) 20 0 (nI g.2.2.2.1.1)) 21 0 (nI g.2.2.2.1.2.1)) 22 0 (nI g.1.2.2.2.1)) 27 0 (nI g.1.2.2.2.2) := ⟨_, rfl⟩
  have x31 : sA X 31 0 = sA τ 31 0 := by rw [hX]; rfl
  obtain ⟨Y, hY⟩ : ∃ Y, Y = sAu (sAu (sAu X 17 0 (bks (sA X 17 0) (sA X 31 0) (b + 7) 12)) 18 0 (bks (sA X 18 0) (sA X 31 0) (b + 19) 12)) 19 0 (bks (sA X 19 0) (sA X 31 0) (b + 31) 12) := ⟨_, rfl⟩
  have y31 : sA Y 31 0 = sA τ 31 0 := by rw [hY, sA_n _ _ (by omega), sA_n _ _ (by omega), sA_n _ _ (by omega), x31]
  obtain ⟨Z, hZ⟩ : ∃ Z, Z = sAu Y 20 0 (bks (sA Y 20 0) (sA Y 31 0) (b + 43) 6) := ⟨_, rfl⟩
  have z31 : sA Z 31 0 = sA τ 31 0 := by rw [hZ, sA_n _ _ (by omega), y31]
  have l1 := fr_L119 f_X8_from_j182 X (sA X 17 0) (sA X 18 0) (sA X 19 0) b hbk 12 0 rfl FU (FU_gt (by decide))
  have l2 := fr_L184 (f_X8_from_j213 (nI b)) Y (sA Y 20 0) b hbk 6 0 rfl FU (FU_gt (by decide))
  have l3 := fr_L215 Z (sA Z 23 0) b hbk 208 0 rfl FU (FU_gt (by decide))
  rw [bks_0, bks_0, bks_0, ex_sA, ex_sA, ex_sA, ← hY] at l1
  rw [bks_0, ex_sA, ← hZ] at l2
  rw [bks_0, ex_sA] at l3
  have eX : eM τ X := by
    rw [hX]
    exact ((((((eM_s (by decide)).tr (eM_s (by decide))).tr (eM_s (by decide))).tr (eM_s (by decide))).tr (eM_s (by decide))).tr (eM_s (by decide))).tr (eM_s (by decide))
  have eY : eM X Y := by rw [hY]; exact ((eM_a (by decide)).tr (eM_a (by decide))).tr (eM_a (by decide))
  have eZ : eM Y Z := by rw [hZ]; exact eM_a (by decide)
  obtain ⟨W, hW⟩ : ∃ W, W = sAu Z 23 0 (bks (sA Z 23 0) (sA Z 31 0) (b + 49) 208) := ⟨_, rfl⟩
  have eW : eM Z W := by rw [hW]; exact eM_a (by decide)
  rw [← hW] at l3
  have gW : ∀ f o, sG W f o = sG X f o := fun f o => by rw [hW, sG_A, hZ, sG_A, hY, sG_A, sG_A, sG_A]
  have w17 : sA W 17 0 = bks (sA X 17 0) (sA τ 31 0) (b + 7) 12 := by rw [hW, sA_n _ _ (by omega), hZ, sA_n _ _ (by omega), hY, sA_n _ _ (by omega), sA_n _ _ (by omega), sA_m, x31]
  have w18 : sA W 18 0 = bks (sA X 18 0) (sA τ 31 0) (b + 19) 12 := by rw [hW, sA_n _ _ (by omega), hZ, sA_n _ _ (by omega), hY, sA_n _ _ (by omega), sA_m, x31]
  have w19 : sA W 19 0 = bks (sA X 19 0) (sA τ 31 0) (b + 31) 12 := by rw [hW, sA_n _ _ (by omega), hZ, sA_n _ _ (by omega), hY, sA_m, x31]
  have w20 : sA W 20 0 = bks (sA Y 20 0) (sA τ 31 0) (b + 43) 6 := by rw [hW, sA_n _ _ (by omega), hZ, sA_m, y31]
  have w23 : sA W 23 0 = bks (sA Z 23 0) (sA τ 31 0) (b + 49) 208 := by rw [hW, sA_m, z31]
  have e : f_X8_from (nI k) τ = f_X8_from_L119 f_X8_from_j182 FU (nI b) 0 X := by
    unfold f_X8_from
    have nz : ¬ nI g.1.1 = 0 := nI_ne0 (by have := hg.1.1; omega) (by have := hg.1.2; omega)
    rw [w_in1 hr, ss_bd_e, if_neg n10, e0, e1, e2, e3, e4, e5, e6]
    rw [nI_clamp (show b < 2 ^ 31 by omega), nI_clamp (show b + 1 < 2 ^ 31 by omega), nI_clamp (show b + 2 < 2 ^ 31 by omega), nI_clamp (show b + 3 < 2 ^ 31 by omega), nI_clamp (show b + 4 < 2 ^ 31 by omega), nI_clamp (show b + 5 < 2 ^ 31 by omega), nI_clamp (show b + 6 < 2 ^ 31 by omega)]
    rw [if_pos (gd_nI (by omega) (by decide)), a1, if_neg nz, if_pos (gd_nI (by omega) (by decide)), if_pos (gd_nI (by omega) (by decide)), ss_let, if_pos (gd_nI (by omega) (by decide)), if_pos (gd_nI (by omega) (by decide)), ss_let, if_pos (gd_nI (by omega) (by decide)), if_pos (gd_nI (by omega) (by decide)), ss_let, if_pos (gd_nI (by omega) (by decide))]
    simp only [sA_G]
    rw [a2, a3, a6, a7, a4, a5, ← hX]
  refine ⟨W, e.trans (l1.trans (l2.trans l3)), ((eX.tr eY).tr eZ).tr eW, ⟨⟨?_, ?_, ?_, ?_, ?_⟩, fun i hi => ?_, fun i hi => ?_, ⟨?_, ?_, fun i hi => ?_, fun i hi => ?_⟩, fun j hj => ⟨?_, ?_, fun i hi => ?_, fun i hi => ?_⟩⟩⟩
  · rw [gW, hX]; rfl
  · rw [gW, hX]; rfl
  · rw [gW, hX]; rfl
  · rw [gW, hX]; rfl
  · rw [gW, hX]; rfl
  · rw [w17, bks_in (by omega)]; exact a8 i hi
  · rw [w20, bks_in (by omega)]; exact a11 i hi
  · rw [gW, hX]; rfl
  · rw [gW, hX]; rfl
  · rw [w18, bks_in (by omega)]; exact a9 i hi
  · rw [w19, bks_in (by omega)]; exact a10 i hi
  · rw [w23, bks_in (by omega)]; exact (a12 j hj).1
  · rw [w23, bks_in (by omega)]; exact (a12 j hj).2.1
  · rw [w23, bks_in (by omega), show b + 49 + (26 * j + 2 + i) = b + 49 + 26 * j + 2 + i by omega]; exact (a12 j hj).2.2.1 i hi
  · rw [w23, bks_in (by omega), show b + 49 + (26 * j + 14 + i) = b + 49 + 26 * j + 14 + i by omega]; exact (a12 j hj).2.2.2 i hi
theorem sim_from {n : Nat} {σ τ : ss_M} (H : Cpl n σ τ) (p0 : Int32) : simI n (f_X7_from p0 σ) (f_X8_from p0 τ) := by
  by_cases h : 0 ≤ p0 ∧ p0 ≤ 1
  · obtain ⟨k, -, hk, rfl⟩ := i_mid (a := 0) (b := 1) (by omega) h.1 h.2 (by omega)
    have e2 : gd (nI k) 2 = true := gd_nI (by omega) (by decide)
    have ek : (nI k).toNatClampNeg = k := nI_clamp (by omega)
    have hi : cImg n σ τ k := by
      have h1 := H.2.2.2.2.2
      by_cases z : k = 0
      · rw [z]; exact h1.1
      · rw [show k = 1 by omega]; exact h1.2
    rcases hi with ⟨x1, x2⟩ | ⟨x1, g, hg, x3, x4⟩
    · unfold f_X7_from f_X8_from
      rw [v_in1 h, w_in1 h, ss_bd_e, ss_bd_e, if_neg n10, if_neg n10, if_pos e2, ek, x1, if_pos rfl, v_no, ss_bd_e, show (258 : Int32) * nI k = nI (258 * k) from pk_mul 258 k, nI_clamp (show 258 * k < 2 ^ 31 by omega), if_pos (gd_nI (by omega) (by decide)), x2, if_pos rfl, w_no, ss_bd_e]
      exact ⟨_, _, _, rfl, rfl, R_no H⟩
    · obtain ⟨σ1, a1, a2, a3⟩ := v_pcopy (o := 0) (o0 := 2 + k) (by omega) (by omega) (by omega) H.1 hg x3
      obtain ⟨τ1, b1, b2, b3⟩ := w_from1 (by omega) hg x4
      have eC1 : eC σ σ1 := ⟨frO_LAY a2 H.1, fun p h1 h2 => a2.pg (by omega) h2 (by omega), ⟨a2.1 8 0 (by omega), a2.2.1 11 0 (by omega)⟩, ⟨by rw [a2.2.2.1], by rw [a2.2.2.1]⟩, ⟨a2.1 14 0 (by omega), a2.1 15 0 (by omega), a2.1 16 0 (by omega)⟩, a2.2.1 101 0 (by omega)⟩
      refine ⟨1, σ1, τ1, ?_, b1, H.pg eC1 b2 ⟨g, hg.up, a3, b3⟩⟩
      unfold f_X7_from
      rw [v_in1 h, ss_bd_e, if_neg n10, if_pos e2, ek, x1, if_neg n10, if_pos e2, a1, Option.bind_some]
  · unfold f_X7_from f_X8_from
    rw [v_in0 h, w_in0 h, ss_bd_e, ss_bd_e, if_pos rfl, if_pos rfl, v_bad, w_bad]
    exact ⟨_, _, _, rfl, rfl, R_bad H⟩
