/-! a page copied over another -/
def slt (o k : Nat) : Prop := k = o ∨ (4 + 8 * o ≤ k ∧ k < 12 + 8 * o)
def frM (o : Nat) (σ σ' : ss_M) : Prop := (∀ f k, ¬ (f ≤ 1 ∧ slt o k) → sG σ' f k = sG σ f k) ∧ (∀ c k, ¬ (c ≤ 1 ∧ slt o k) → sA σ' c k = sA σ c k) ∧ sL σ' = sL σ ∧ sB σ' = sB σ ∧ sR σ' = sR σ
theorem frM.rf (o : Nat) (σ : ss_M) : frM o σ σ := ⟨fun _ _ _ => rfl, fun _ _ _ => rfl, rfl, rfl, rfl⟩
theorem frM.tr {o : Nat} {a b c : ss_M} (h : frM o a b) (k : frM o b c) : frM o a c := ⟨fun f x q => (k.1 f x q).trans (h.1 f x q), fun f x q => (k.2.1 f x q).trans (h.2.1 f x q), k.2.2.1.trans h.2.2.1, k.2.2.2.1.trans h.2.2.2.1, k.2.2.2.2.trans h.2.2.2.2⟩
theorem mkE.fr {o s : Nat} {σ σ' : ss_M} (h : mkE s σ σ') (hs : slt o s) : frM o σ σ' := ⟨fun f k q => h.1 f k (fun z => q ⟨z.1, z.2 ▸ hs⟩), fun f k q => h.2.1 f k (fun z => q ⟨z.1, z.2 ▸ hs⟩), h.2.2.1, h.2.2.2.1, h.2.2.2.2⟩
def frS (o : Nat) (σ σ' : ss_M) : Prop := (∀ f k, ¬ (f ≤ 1 ∧ 4 + 8 * o ≤ k ∧ k < 12 + 8 * o) → sG σ' f k = sG σ f k) ∧ (∀ c k, ¬ (c ≤ 1 ∧ 4 + 8 * o ≤ k ∧ k < 12 + 8 * o) → sA σ' c k = sA σ c k) ∧ sL σ' = sL σ ∧ sB σ' = sB σ ∧ sR σ' = sR σ
theorem frS.rf (o : Nat) (σ : ss_M) : frS o σ σ := ⟨fun _ _ _ => rfl, fun _ _ _ => rfl, rfl, rfl, rfl⟩
theorem frS.tr {o : Nat} {a b c : ss_M} (h : frS o a b) (k : frS o b c) : frS o a c := ⟨fun f x q => (k.1 f x q).trans (h.1 f x q), fun f x q => (k.2.1 f x q).trans (h.2.1 f x q), k.2.2.1.trans h.2.2.1, k.2.2.2.1.trans h.2.2.2.1, k.2.2.2.2.trans h.2.2.2.2⟩
theorem mkE.frS {o s : Nat} {σ σ' : ss_M} (h : mkE s σ σ') (hs : 4 + 8 * o ≤ s ∧ s < 12 + 8 * o) : frS o σ σ' := ⟨fun f k q => h.1 f k (fun z => q ⟨z.1, by omega, by omega⟩), fun f k q => h.2.1 f k (fun z => q ⟨z.1, by omega, by omega⟩), h.2.2.1, h.2.2.2.1, h.2.2.2.2⟩
theorem frS.M {o : Nat} {a b : ss_M} (h : frS o a b) : frM o a b := ⟨fun f k q => h.1 f k (fun z => q ⟨z.1, Or.inr z.2⟩), fun f k q => h.2.1 f k (fun z => q ⟨z.1, Or.inr z.2⟩), h.2.2⟩
def frO (o : Nat) (σ σ' : ss_M) : Prop := (∀ f k, ¬ ((f ≤ 1 ∧ slt o k) ∨ (3 ≤ f ∧ f ≤ 7 ∧ k = o)) → sG σ' f k = sG σ f k) ∧ (∀ c k, ¬ ((c ≤ 1 ∧ slt o k) ∨ ((c = 4 ∨ c = 5) ∧ k = o)) → sA σ' c k = sA σ c k) ∧ sL σ' = sL σ ∧ sB σ' = sB σ ∧ sR σ' = sR σ
theorem frO.pg {o p : Nat} {σ σ' : ss_M} (h : frO o σ σ') (ho : o < 4) (hp : p < 4) (hn : p ≠ o) : pgE p σ σ' := by
  refine ⟨fun f h1 h2 => h.1 f p (by omega), h.2.1 4 p (by omega), h.2.1 5 p (by omega), by rw [h.2.2.2.2], fun k hk => ?_⟩
  have : ¬ slt o k := by unfold slt; omega
  exact ⟨h.1 0 k (fun z => z.elim (fun y => this y.2) (fun y => by omega)), h.1 1 k (fun z => z.elim (fun y => this y.2) (fun y => by omega)), h.2.1 0 k (fun z => z.elim (fun y => this y.2) (fun y => by omega)), h.2.1 1 k (fun z => z.elim (fun y => this y.2) (fun y => by omega))⟩
theorem frO_LAY {o : Nat} {σ σ' : ss_M} (h : frO o σ σ') (hL : LAY σ) : LAY σ' := by
  have e := h.2.2.2.2
  intro p hp
  rw [e]
  exact hL p hp
theorem pc_L {o o0 w q : Nat} {P : Nat → pMk} (ho : o < 4) (h0 : o0 < 4) (hn : o ≠ o0) (hw : w ≤ 12) (hq : q ≤ 8) : ∀ m i : Nat, i + m = 8 → ∀ (σ : ss_M) (n : Nat), LAY σ → (∀ j, j < i → j < q → cMk σ w (sR σ o j) (P j)) → (∀ j, j < q → cMk σ w (sR σ o0 j) (P j)) → m < n → ∃ σ', f_X4_copy_L83 o o0 n (nI i) σ = some σ' ∧ frS o σ σ' ∧ ∀ j, j < q → cMk σ' w (sR σ' o j) (P j) := by
  intro m
  induction m with
  | zero =>
    intro i hi σ n hL hA hB hn'
    obtain ⟨n', rfl⟩ : ∃ n', n = n' + 1 := ⟨n - 1, by omega⟩
    exact ⟨σ, by rw [f_X4_copy_L83, if_pos (lle 8 8 (i := i) (by omega) (by omega))], frS.rf o σ, fun j hj => hA j (by omega) hj⟩
  | succ m ih =>
    intro i hi σ n hL hA hB hn'
    obtain ⟨n', rfl⟩ : ∃ n', n = n' + 1 := ⟨n - 1, by omega⟩
    have e8 : gd (nI i) 8 = true := gd_nI (by omega) (by decide)
    have b1 := (hL o ho).1 i (by omega)
    have b2 := (hL o0 h0).1 i (by omega)
    obtain ⟨σ1, a1, a2, a3⟩ := v_copy (o := sR σ o i) (o0 := sR σ o0 i) σ
    have hf : frS o σ σ1 := a2.frS b1
    have hR : sR σ1 = sR σ := hf.2.2.2.2
    have hL1 : LAY σ1 := fun p hp => by rw [hR]; exact hL p hp
    obtain ⟨σ', c1, c2, c3⟩ := ih (i + 1) (by omega) σ1 n' hL1 (fun j hj hjq => by
      rw [hR]
      by_cases e : j = i
      · subst e
        exact a3 w (P j) hw (by omega) (hB j hjq)
      · have d : sR σ o j ≠ sR σ o i := fun z => e ((hL o ho).2 j i (by omega) (by omega) z)
        exact a2.mk d (hA j (by omega) hjq)) (fun j hj => by
      rw [hR]
      have b3 := (hL o0 h0).1 j (by omega)
      exact a2.mk (by omega) (hB j hj)) (by omega)
    refine ⟨σ', ?_, hf.tr c2, c3⟩
    rw [f_X4_copy_L83, if_neg (lnle 8 8 (i := i) (by omega)), if_pos e8, nI_clamp (by omega), if_pos (by omega), if_pos e8, if_pos (by omega), a1, Option.bind_some, nIa1]
    exact c1
theorem v_pcopy {o o0 n : Nat} {g : pPg} {σ : ss_M} (ho : o < 4) (h0 : o0 < 4) (hn : o ≠ o0) (hL : LAY σ) (hg : gOk n g) (h : cPg σ o0 g) : ∃ σ', f_X4_copy o o0 σ = some σ' ∧ frO o σ σ' ∧ cPg σ' o g := by
  obtain ⟨A, hA⟩ : ∃ A, A = sGu (sGu (sGu σ 3 o (sG σ 3 o0)) 4 o (sG σ 4 o0)) 5 o (sG σ 5 o0) := ⟨_, rfl⟩
  obtain ⟨C, hC⟩ : ∃ C, C = sGu (sGu A 6 o (sG σ 6 o0)) 7 o (sG σ 7 o0) := ⟨_, rfl⟩
  obtain ⟨D, hD⟩ : ∃ D, D = sAu C 4 o (va_cpy (sA C 4 o0) (sA C 4 o) 0 0 12) := ⟨_, rfl⟩
  obtain ⟨σ1, hσ1⟩ : ∃ σ1, σ1 = sAu D 5 o (va_cpy (sA D 5 o0) (sA D 5 o) 0 0 6) := ⟨_, rfl⟩
  have e : f_X4_copy o o0 σ = Option.bind (f_X2_copy o o0 σ1) (fun σ5 => f_X4_copy_L83 o o0 FU (0 : Int32) σ5) := by
    have x4 : sG (sGu σ 3 o (sG σ 3 o0)) 4 o0 = sG σ 4 o0 := sG_n _ _ (by omega)
    have x5 : sG (sGu (sGu σ 3 o (sG σ 3 o0)) 4 o (sG σ 4 o0)) 5 o0 = sG σ 5 o0 := by rw [sG_n _ _ (by omega), sG_n _ _ (by omega)]
    have x6 : sG A 6 o0 = sG σ 6 o0 := by rw [hA, sG_n _ _ (by omega), sG_n _ _ (by omega), sG_n _ _ (by omega)]
    have x7 : sG (sGu A 6 o (sG σ 6 o0)) 7 o0 = sG σ 7 o0 := by rw [sG_n _ _ (by omega), hA, sG_n _ _ (by omega), sG_n _ _ (by omega), sG_n _ _ (by omega)]
    unfold f_X4_copy
    rw [x4, x5, ← hA, ss_let, if_pos gdc12, x6, x7, ← hC, c_0, c12, ← hD, ss_let, if_pos gdc6, c6, ← hσ1]
  have h12 := hg.2.2.1
  have h8 := hg.2.2.2.2.1
  have hR1 : sR σ1 = sR σ := by rw [hσ1, hD, hC, hA]; rfl
  have g1 : sG σ1 = sG C := by rw [hσ1, hD]; rfl
  have f1 : ∀ f k, ¬ (3 ≤ f ∧ f ≤ 7 ∧ k = o) → sG σ1 f k = sG σ f k := fun f k q => by
    rw [g1, hC, hA, sG_n _ _ (by omega), sG_n _ _ (by omega), sG_n _ _ (by omega), sG_n _ _ (by omega), sG_n _ _ (by omega)]
  have gC : ∀ c k, sA C c k = sA σ c k := fun c k => by rw [hC, hA, sA_G, sA_G, sA_G, sA_G, sA_G]
  have f2 : ∀ c k, ¬ ((c = 4 ∨ c = 5) ∧ k = o) → sA σ1 c k = sA σ c k := fun c k q => by
    rw [hσ1, hD, sA_n _ _ (by omega), sA_n _ _ (by omega), gC]
  have s3 : sG σ1 3 o = sG σ 3 o0 := by rw [g1, hC, hA, sG_n _ _ (by omega), sG_n _ _ (by omega), sG_n _ _ (by omega), sG_n _ _ (by omega), sG_m]
  have s4 : sG σ1 4 o = sG σ 4 o0 := by rw [g1, hC, hA, sG_n _ _ (by omega), sG_n _ _ (by omega), sG_n _ _ (by omega), sG_m]
  have s5 : sG σ1 5 o = sG σ 5 o0 := by rw [g1, hC, hA, sG_n _ _ (by omega), sG_n _ _ (by omega), sG_m]
  have s6 : sG σ1 6 o = sG σ 6 o0 := by rw [g1, hC, hA, sG_n _ _ (by omega), sG_m]
  have s7 : sG σ1 7 o = sG σ 7 o0 := by rw [g1, hC, hA, sG_m]
  have r4 : sA σ1 4 o = va_cpy (sA σ 4 o0) (sA σ 4 o) 0 0 12 := by rw [hσ1, sA_n _ _ (by omega), hD, sA_m, gC, gC]
  have r5 : sA σ1 5 o = va_cpy (sA σ 5 o0) (sA σ 5 o) 0 0 6 := by rw [hσ1, sA_m, hD, sA_n _ _ (by omega), sA_n _ _ (by omega), gC, gC]
  obtain ⟨σ2, a1, a2, a3⟩ := v_copy (o := o) (o0 := o0) σ1
  have hf2 : frM o σ1 σ2 := a2.fr (Or.inl rfl)
  have hR2 : sR σ2 = sR σ := hf2.2.2.2.2.trans hR1
  have hL2 : LAY σ2 := fun p hp => by rw [hR2]; exact hL p hp
  have k0 : cMk σ1 g.1.2.2.1 o0 g.2.2.2.1 := h.2.2.2.1.same ⟨f1 0 o0 (by omega), f1 1 o0 (by omega), f2 0 o0 (by omega), f2 1 o0 (by omega)⟩
  obtain ⟨σ3, c1, c2, c3⟩ := pc_L (q := g.1.2.2.2.2) (w := g.1.2.2.1) (P := g.2.2.2.2) ho h0 hn h12 h8 8 0 rfl σ2 FU hL2 (fun j hj => absurd hj (Nat.not_lt_zero _)) (fun j hj => by
    rw [hR2]
    have b := (hL o0 h0).1 j (by omega)
    refine a2.mk (by omega) ((h.2.2.2.2 j hj).same ⟨f1 0 _ (by omega), f1 1 _ (by omega), f2 0 _ (by omega), f2 1 _ (by omega)⟩)) (FU_gt (by decide))
  have hf : frM o σ1 σ3 := hf2.tr c2.M
  refine ⟨σ3, ?_, ⟨fun f k q => ?_, fun c k q => ?_, ?_, ?_, hf.2.2.2.2.trans hR1⟩, ⟨⟨?_, ?_, ?_, ?_, ?_⟩, fun i hi => ?_, fun i hi => ?_, ?_, fun j hj => c3 j hj⟩⟩
  · rw [e, a1, Option.bind_some]
    exact c1
  · rw [hf.1 f k (fun z => q (Or.inl z)), f1 f k (fun z => q (Or.inr z))]
  · rw [hf.2.1 c k (fun z => q (Or.inl z)), f2 c k (fun z => q (Or.inr z))]
  · rw [hf.2.2.1, hσ1, hD, hC, hA]; rfl
  · rw [hf.2.2.2.1, hσ1, hD, hC, hA]; rfl
  · rw [hf.1 3 o (by omega), s3]; exact h.1.1
  · rw [hf.1 4 o (by omega), s4]; exact h.1.2.1
  · rw [hf.1 5 o (by omega), s5]; exact h.1.2.2.1
  · rw [hf.1 6 o (by omega), s6]; exact h.1.2.2.2.1
  · rw [hf.1 7 o (by omega), s7]; exact h.1.2.2.2.2
  · rw [hf.2.1 4 o (by omega), r4, pk_cpy_in (by omega) (by omega)]
    have : (0 : Nat) + (i - 0) = i := by omega
    rw [this]; exact h.2.1 i hi
  · have h6 := hg.2.2.2.1
    rw [hf.2.1 5 o (by omega), r5, pk_cpy_in (by omega) (by omega)]
    have : (0 : Nat) + (i - 0) = i := by omega
    rw [this]; exact h.2.2.1 i hi
  · have k2 := a3 g.1.2.2.1 g.2.2.2.1 h12 hn k0
    exact k2.same ⟨c2.1 0 o (by omega), c2.1 1 o (by omega), c2.2.1 0 o (by omega), c2.2.1 1 o (by omega)⟩
