/-! face calls that change the page -/
theorem LAY_s {σ : ss_M} {f o : Nat} {v : Int32} (h : LAY σ) : LAY (sGu σ f o v) := h
theorem LAY_a {σ : ss_M} {c o : Nat} {v : Nat → Int32} (h : LAY σ) : LAY (sAu σ c o v) := h
theorem eC_2 {a b : ss_M} {f : Nat} {v : Int32} (h : eC a b) (hf : f ≤ 7) : eC a (sGu b f 0 v) := h.tr (eC_s h.1 (Or.inl rfl) (Or.inl hf))
theorem eM_2 {a b : ss_M} {f : Nat} {v : Int32} (h : eM a b) (hf : f ≠ 23) : eM a (sGu b f 0 v) := h.tr (eM_s hf)
theorem sG_m (σ : ss_M) (f o : Nat) (v : Int32) : sG (sGu σ f o v) f o = v := by rw [sG_G, if_pos ⟨rfl, rfl⟩]
theorem sG_n (σ : ss_M) {f o f' o' : Nat} (v : Int32) (h : ¬ (f' = f ∧ o' = o)) : sG (sGu σ f o v) f' o' = sG σ f' o' := by rw [sG_G, if_neg h]
theorem sA_n (σ : ss_M) {f o f' o' : Nat} (v : Nat → Int32) (h : ¬ (f' = f ∧ o' = o)) : sA (sAu σ f o v) f' o' = sA σ f' o' := by rw [sA_A, if_neg h]
theorem sim_price {n : Nat} {σ τ : ss_M} (H : Cpl n σ τ) (p0 : Int32) : simI n (f_X7_price p0 σ) (f_X8_price p0 τ) := by
  by_cases h : 1 ≤ p0 ∧ p0 ≤ 9
  · simp only [f_X7_price, f_X8_price, v_pr1 h, w_in1 h, ss_bd_e, n10, if_false]
    obtain ⟨g, hg, hc, hm⟩ := H.2.1
    refine ⟨_, _, _, rfl, by rw [hc.1.2.1, hm.1.2.1], ?_⟩
    obtain ⟨k, k1, k2, rfl⟩ := i_mid (a := 1) (b := 9) (by omega) h.1 h.2 (by omega)
    refine H.pg (eC_2 (eC.rf H.1) (by omega)) (eM_s (by omega)) ⟨((g.1.1, k, g.1.2.2), g.2), ⟨hg.1, ⟨k1, k2⟩, hg.up.2.2⟩, ?_, ?_⟩
    · exact ⟨⟨hc.1.1, sG_m _ _ _ _, hc.1.2.2⟩, hc.2⟩
    · exact ⟨⟨hm.1.1, sG_m _ _ _ _, hm.1.2.2⟩, hm.2⟩
  · simp only [f_X7_price, f_X8_price, v_pr0 h, w_in0 h, ss_bd_e, if_true, v_bad, w_bad]
    exact ⟨_, _, _, rfl, rfl, R_bad H⟩
theorem sim_purse {n : Nat} {σ τ : ss_M} (H : Cpl n σ τ) (p0 : Int32) : simI n (f_X7_purse p0 σ) (f_X8_purse p0 τ) := by
  by_cases h : 0 ≤ p0 ∧ p0 ≤ 999
  · simp only [f_X7_purse, f_X8_purse, v_in1 h, w_in1 h, ss_bd_e, n10, if_false]
    obtain ⟨g, hg, hc, hm⟩ := H.2.1
    refine ⟨_, _, _, rfl, by rw [hc.2.2.2.1.1, hm.2.2.2.1.1], ?_⟩
    obtain ⟨k, k1, k2, rfl⟩ := i_mid (a := 0) (b := 999) (by omega) h.1 h.2 (by omega)
    have h0 := H.1 0 (by decide)
    have hq := hg.2.2.2.2.1
    refine H.pg (eC_2 (eC.rf H.1) (by omega)) (eM_s (by omega)) ⟨(g.1, g.2.1, g.2.2.1, (k, g.2.2.2.1.2), g.2.2.2.2), ?_, ?_, ?_⟩
    · exact ⟨hg.1, hg.2.1, hg.2.2.1, hg.2.2.2.1, hg.2.2.2.2.1, hg.2.2.2.2.2.1, ⟨k2, hg.up.2.2.2.2.2.2.1.2⟩, hg.up.2.2.2.2.2.2.2⟩
    · refine ⟨hc.1, hc.2.1, hc.2.2.1, ⟨sG_m _ _ _ _, hc.2.2.2.1.2⟩, fun j hj => ?_⟩
      have hj' : j < g.1.2.2.2.2 := hj
      have hb := h0.1 j (by omega)
      exact (hc.2.2.2.2 j hj).same ⟨sG_n _ _ (by show ¬ (0 = 0 ∧ sR σ 0 j = 0); omega), rfl, rfl, rfl⟩
    · exact ⟨hm.1, hm.2.1, hm.2.2.1, ⟨sG_m _ _ _ _, hm.2.2.2.1.2⟩, hm.2.2.2.2⟩
  · simp only [f_X7_purse, f_X8_purse, v_in0 h, w_in0 h, ss_bd_e, if_true, v_bad, w_bad]
    exact ⟨_, _, _, rfl, rfl, R_bad H⟩
theorem sim_forget {n : Nat} {σ τ : ss_M} (H : Cpl n σ τ) : simI n (f_X7_forget σ) (f_X8_forget τ) := by
  obtain ⟨g, hg, hc, hm⟩ := H.2.1
  refine ⟨_, _, _, rfl, by unfold f_X8_forget; rw [hc.1.2.2.2.1, hm.1.2.2.2.1], ?_⟩
  refine H.pg (eC_2 (eC.rf H.1) (by omega)) (eM_s (by omega)) ⟨((g.1.1, g.1.2.1, g.1.2.2.1, 0, g.1.2.2.2.2), g.2), ⟨hg.1, hg.2.1, hg.2.2.1, (show 0 ≤ 6 by decide), hg.up.2.2.2.2⟩, ?_, ?_⟩
  · exact ⟨⟨hc.1.1, hc.1.2.1, hc.1.2.2.1, sG_m _ _ _ _, hc.1.2.2.2.2⟩, hc.2.1, fun i hi => absurd hi (Nat.not_lt_zero _), hc.2.2.2⟩
  · exact ⟨⟨hm.1.1, hm.1.2.1, hm.1.2.2.1, sG_m _ _ _ _, hm.1.2.2.2.2⟩, hm.2.1, fun i hi => absurd hi (Nat.not_lt_zero _), hm.2.2.2⟩
/-- a page begun anew -/
def gNew (g : pPg) (B P : Nat) : pPg := ((B, P, 0, 0, 0), g.2.1, g.2.2.1, (0, 0, g.2.2.2.1.2.2), g.2.2.2.2)
theorem gNew_ok {n B P : Nat} {g : pPg} (h1 : 1 ≤ B ∧ B ≤ 30) (h2 : 1 ≤ P ∧ P ≤ 9) : gOk n (gNew g B P) :=
  ⟨h1, h2, by show 0 ≤ 12; decide, by show 0 ≤ 6; decide, by show 0 ≤ 8; decide, fun i hi => absurd hi (Nat.not_lt_zero _), ⟨by show 0 ≤ 999; decide, by show 0 ≤ 20 * n; omega, fun i hi => absurd hi (Nat.not_lt_zero _)⟩, fun i hi => absurd hi (Nat.not_lt_zero _)⟩
theorem v_begin (p B P : Nat) (σ : ss_M) (g : pPg) : ∃ σ', f_X4_begin p (nI B) (nI P) σ = some σ' ∧ cPg σ' p (gNew g B P) ∧ (∀ f o, ¬ (f ≤ 7 ∧ o = p) → sG σ' f o = sG σ f o) ∧ sG σ' 2 = sG σ 2 ∧ σ'.2 = σ.2 := by
  refine ⟨_, rfl, ⟨⟨?_, ?_, ?_, ?_, ?_⟩, fun i hi => absurd hi (Nat.not_lt_zero _), fun i hi => absurd hi (Nat.not_lt_zero _), ⟨?_, ?_, fun i hi => absurd hi (Nat.not_lt_zero _), fun i hi => absurd hi (Nat.not_lt_zero _)⟩, fun i hi => absurd hi (Nat.not_lt_zero _)⟩, fun f o h => ?_, ?_, rfl⟩
  · simp [sG_G]; rfl
  · simp [sG_G]; rfl
  · simp [sG_G]; rfl
  · simp [sG_G]; rfl
  · simp [sG_G]; rfl
  · simp [sG_G]; rfl
  · simp [sG_G]; rfl
  · rw [sG_n _ _ (by omega), sG_n _ _ (by omega), sG_n _ _ (by omega), sG_n _ _ (by omega), sG_n _ _ (by omega), sG_n _ _ (by omega), sG_n _ _ (by omega)]
  · funext o
    simp [sG_G]
theorem w_begin (B P : Nat) (τ : ss_M) (g : pPg) : ∃ τ', f_X8_begin (nI B) (nI P) τ = some τ' ∧ mPg τ' (gNew g B P) ∧ eM τ τ' ∧ (∀ f o, f ≠ 17 → f ≠ 18 → f ≠ 19 → f ≠ 20 → f ≠ 21 → f ≠ 22 → f ≠ 27 → sG τ' f o = sG τ f o) ∧ τ'.2 = τ.2 := by
  refine ⟨_, rfl, ⟨⟨?_, ?_, ?_, ?_, ?_⟩, fun i hi => absurd hi (Nat.not_lt_zero _), fun i hi => absurd hi (Nat.not_lt_zero _), ⟨?_, ?_, fun i hi => absurd hi (Nat.not_lt_zero _), fun i hi => absurd hi (Nat.not_lt_zero _)⟩, fun i hi => absurd hi (Nat.not_lt_zero _)⟩, ?_, fun f o h1 h2 h3 h4 h5 h6 h7 => ?_, rfl⟩
  · simp [sG_G]; rfl
  · simp [sG_G]; rfl
  · simp [sG_G]; rfl
  · simp [sG_G]; rfl
  · simp [sG_G]; rfl
  · simp [sG_G]; rfl
  · simp [sG_G]; rfl
  · exact eM_2 (eM_2 (eM_2 (eM_2 (eM_2 (eM_2 (eM_2 eM.rf (by decide)) (by decide)) (by decide)) (by decide)) (by decide)) (by decide)) (by decide)
  · rw [sG_n _ _ (by omega), sG_n _ _ (by omega), sG_n _ _ (by omega), sG_n _ _ (by omega), sG_n _ _ (by omega), sG_n _ _ (by omega), sG_n _ _ (by omega)]
theorem begin_eC {σ σ' : ss_M} (hL : LAY σ) (h1 : ∀ f o, ¬ (f ≤ 7 ∧ o = 0) → sG σ' f o = sG σ f o) (h2 : σ'.2 = σ.2) : eC σ σ' := by
  obtain ⟨a, b⟩ := σ
  obtain ⟨a', b'⟩ := σ'
  have : b' = b := h2
  subst this
  exact ⟨hL, fun p q1 q2 => ⟨fun f _ _ => h1 f p (by omega), rfl, rfl, rfl, fun k hk => ⟨h1 0 k (by omega), h1 1 k (by omega), rfl, rfl⟩⟩, ⟨h1 8 0 (by omega), rfl⟩, ⟨rfl, rfl⟩, ⟨h1 14 0 (by omega), h1 15 0 (by omega), h1 16 0 (by omega)⟩, rfl⟩
theorem sim_page {n : Nat} {σ τ : ss_M} (H : Cpl n σ τ) (p0 p1 : Int32) : simI n (f_X7_page p0 p1 σ) (f_X8_page p0 p1 τ) := by
  by_cases h : 1 ≤ p0 ∧ p0 ≤ 30
  · by_cases h2 : 1 ≤ p1 ∧ p1 ≤ 9
    · obtain ⟨g, hg, hc, hm⟩ := H.2.1
      obtain ⟨B, B1, B2, rfl⟩ := i_mid (a := 1) (b := 30) (by omega) h.1 h.2 (by omega)
      obtain ⟨P, P1, P2, rfl⟩ := i_mid (a := 1) (b := 9) (by omega) h2.1 h2.2 (by omega)
      obtain ⟨σ', e1, e2, e3, e4, e5⟩ := v_begin 0 B P σ g
      obtain ⟨τ', f1, f2, f3, -, -⟩ := w_begin B P τ g
      simp only [f_X7_page, f_X8_page, f_X8_isPage, v_br1 h, v_pr1 h2, w_in1 h, w_in1 h2, ss_bd_e, n10, if_false, e1, f1, Option.bind_some]
      refine ⟨_, _, _, rfl, by rw [hc.1.2.2.1, hm.1.2.2.1], ?_⟩
      exact H.pg (begin_eC H.1 e3 e5) f3 ⟨gNew g B P, gNew_ok ⟨B1, B2⟩ ⟨P1, P2⟩, e2, f2⟩
    · simp only [f_X7_page, f_X8_page, f_X8_isPage, f_X7_page_j14, v_br1 h, v_pr0 h2, w_in1 h, w_in0 h2, ss_bd_e, n10, if_false, if_true, v_bad, w_bad]
      exact ⟨_, _, _, rfl, rfl, R_bad H⟩
  · simp only [f_X7_page, f_X8_page, f_X8_isPage, f_X7_page_j14, v_br0 h, w_in0 h, ss_bd_e, if_true, v_bad, w_bad]
    exact ⟨_, _, _, rfl, rfl, R_bad H⟩
/-- a piece more -/
def gAdd (g : pPg) (l : Nat) : pPg := ((g.1.1, g.1.2.1, g.1.2.2.1 + 1, g.1.2.2.2.1, 0), (fun i => if i = g.1.2.2.1 then l else g.2.1 i), g.2.2.1, (g.2.2.2.1.1, g.2.2.2.1.2.1, upd g.2.2.2.1.2.2.1 g.1.2.2.1 (-1), upd g.2.2.2.1.2.2.2 g.1.2.2.1 0), g.2.2.2.2)
theorem gAdd_ok {n l : Nat} {g : pPg} (hg : gOk n g) (hw : g.1.2.2.1 < 12) (hl : 1 ≤ l ∧ l ≤ 9) : gOk n (gAdd g l) := by
  refine ⟨hg.1, hg.2.1, hw, hg.2.2.2.1, by show 0 ≤ 8; decide, fun i hi => ?_, ⟨hg.2.2.2.2.2.2.1.1, hg.2.2.2.2.2.2.1.2.1, fun i hi => ?_⟩, fun i hi => absurd hi (Nat.not_lt_zero _)⟩
  · have hi' : i < g.1.2.2.1 + 1 := hi
    show 1 ≤ (if i = g.1.2.2.1 then l else g.2.1 i) ∧ (if i = g.1.2.2.1 then l else g.2.1 i) ≤ 9
    by_cases e : i = g.1.2.2.1
    · rw [if_pos e]; exact hl
    · rw [if_neg e]; exact hg.2.2.2.2.2.1 i (by omega)
  · have hi' : i < g.1.2.2.1 + 1 := hi
    show kOk (upd g.2.2.2.1.2.2.1 g.1.2.2.1 (-1) i)
    unfold upd
    by_cases e : i = g.1.2.2.1
    · rw [if_pos e]; exact Or.inl rfl
    · rw [if_neg e]; exact hg.2.2.2.2.2.2.1.2.2 i (by omega)
theorem v_add {n p l : Nat} {g : pPg} {σ : ss_M} (hp : p < 4) (hg : gOk n g) (h : cPg σ p g) (hw : g.1.2.2.1 < 12) : ∃ σ', f_X4_addWord p (nI l) σ = some σ' ∧ cPg σ' p (gAdd g l) ∧ (∀ f o, ¬ ((f = 5 ∨ f = 7) ∧ o = p) → sG σ' f o = sG σ f o) ∧ (∀ c o, ¬ ((c = 0 ∨ c = 1 ∨ c = 4) ∧ o = p) → sA σ' c o = sA σ c o) ∧ σ'.2.2 = σ.2.2 := by
  have e5 : sG σ 5 p = nI g.1.2.2.1 := h.1.2.2.1
  obtain ⟨Z, hZ⟩ : ∃ Z, Z = sAu σ 4 p (upd (sA σ 4 p) g.1.2.2.1 (nI l)) := ⟨_, rfl⟩
  obtain ⟨X, hX⟩ : ∃ X, X = sAu (sAu Z 0 p (upd (sA Z 0 p) g.1.2.2.1 (-1))) 1 p (upd (sA Z 1 p) g.1.2.2.1 0) := ⟨_, rfl⟩
  have x5 : sG X 5 p = nI g.1.2.2.1 := by rw [hX, hZ]; exact e5
  have z0 : sA Z 0 p = sA σ 0 p := by rw [hZ, sA_n _ _ (by omega)]
  have z1 : sA Z 1 p = sA σ 1 p := by rw [hZ, sA_n _ _ (by omega)]
  have ext : ∀ {f g' : Nat → Int32} {x : Int32}, (∀ i, i < g.1.2.2.1 → f i = g' i) → ∀ i, i < g.1.2.2.1 + 1 → upd f g.1.2.2.1 x i = upd g' g.1.2.2.1 x i := fun hfg i hi => by
    unfold upd
    by_cases e : i = g.1.2.2.1
    · rw [if_pos e, if_pos e]
    · rw [if_neg e, if_neg e]; exact hfg i (by omega)
  refine ⟨sGu (sGu X 5 p (nI (g.1.2.2.1 + 1))) 7 p 0, ?_, ⟨⟨?_, ?_, ?_, ?_, ?_⟩, fun i hi => ?_, fun i hi => ?_, ⟨?_, ?_, fun i hi => ?_, fun i hi => ?_⟩, fun i hi => absurd hi (Nat.not_lt_zero _)⟩, fun f o hfo => ?_, fun c o hco => ?_, by rw [hX, hZ]; rfl⟩
  · unfold f_X4_addWord
    rw [e5, if_pos (gd_nI hw (by decide)), nI_clamp (by omega), sG_A, e5, ← hZ, v_set hw, ← hX]
    show some (sGu (sGu X 5 p (sG X 5 p + 1)) 7 p 0) = _
    rw [x5, nIa1]
  · rw [sG_n _ _ (by omega), sG_n _ _ (by omega), hX, hZ]; exact h.1.1
  · rw [sG_n _ _ (by omega), sG_n _ _ (by omega), hX, hZ]; exact h.1.2.1
  · rw [sG_n _ _ (by omega), sG_m]; rfl
  · rw [sG_n _ _ (by omega), sG_n _ _ (by omega), hX, hZ]; exact h.1.2.2.2.1
  · rw [sG_m]; rfl
  · have hi' : i < g.1.2.2.1 + 1 := hi
    rw [sA_G, sA_G, hX, sA_n _ _ (by omega), sA_n _ _ (by omega), hZ, sA_m]
    show upd (sA σ 4 p) g.1.2.2.1 (nI l) i = nI (if i = g.1.2.2.1 then l else g.2.1 i)
    unfold upd
    by_cases e : i = g.1.2.2.1
    · rw [if_pos e, if_pos e]
    · rw [if_neg e, if_neg e]; exact h.2.1 i (by omega)
  · rw [sA_G, sA_G, hX, sA_n _ _ (by omega), sA_n _ _ (by omega), hZ, sA_n _ _ (by omega)]; exact h.2.2.1 i hi
  · rw [sG_n _ _ (by omega), sG_n _ _ (by omega), hX, hZ]; exact h.2.2.2.1.1
  · rw [sG_n _ _ (by omega), sG_n _ _ (by omega), hX, hZ]; exact h.2.2.2.1.2.1
  · rw [sA_G, sA_G, hX, sA_n _ _ (by omega), sA_m, z0]; exact ext h.2.2.2.1.2.2.1 i hi
  · rw [sA_G, sA_G, hX, sA_m, z1]; exact ext h.2.2.2.1.2.2.2 i hi
  · rw [sG_n _ _ (by omega), sG_n _ _ (by omega), hX, hZ]; rfl
  · rw [sA_G, sA_G, hX, sA_n _ _ (by omega), sA_n _ _ (by omega), hZ, sA_n _ _ (by omega)]
theorem w_add {n l : Nat} {g : pPg} {τ : ss_M} (hg : gOk n g) (h : mPg τ g) (hw : g.1.2.2.1 < 12) : ∃ τ', f_X8_add (nI l) τ = some (nI g.1.2.2.1, τ') ∧ mPg τ' (gAdd g l) ∧ eM τ τ' ∧ (∀ f o, f ≠ 17 → f ≠ 27 → sG τ' f o = sG τ f o) ∧ (∀ c o, c ≠ 17 → c ≠ 18 → c ≠ 19 → sA τ' c o = sA τ c o) := by
  have e5 : sG τ 17 0 = nI g.1.2.2.1 := h.1.2.2.1
  obtain ⟨X, hX⟩ : ∃ X, X = sAu (sAu (sAu τ 17 0 (upd (sA τ 17 0) g.1.2.2.1 (nI l))) 18 0 (upd (sA τ 18 0) g.1.2.2.1 (-1))) 19 0 (upd (sA τ 19 0) g.1.2.2.1 0) := ⟨_, rfl⟩
  have x5 : sG X 17 0 = nI g.1.2.2.1 := by rw [hX]; exact e5
  have ext : ∀ {f g' : Nat → Int32} {x : Int32}, (∀ i, i < g.1.2.2.1 → f i = g' i) → ∀ i, i < g.1.2.2.1 + 1 → upd f g.1.2.2.1 x i = upd g' g.1.2.2.1 x i := fun hfg i hi => by
    unfold upd
    by_cases e : i = g.1.2.2.1
    · rw [if_pos e, if_pos e]
    · rw [if_neg e, if_neg e]; exact hfg i (by omega)
  have q1 : ∀ v, sA (sAu τ 17 0 v) 18 0 = sA τ 18 0 := fun v => sA_n _ _ (by decide)
  have q2 : ∀ v w, sA (sAu (sAu τ 17 0 v) 18 0 w) 19 0 = sA τ 19 0 := fun v w => by rw [sA_n _ _ (by decide), sA_n _ _ (by decide)]
  refine ⟨sGu (sGu X 17 0 (nI (g.1.2.2.1 + 1))) 27 0 0, ?_, ⟨⟨?_, ?_, ?_, ?_, ?_⟩, fun i hi => ?_, fun i hi => ?_, ⟨?_, ?_, fun i hi => ?_, fun i hi => ?_⟩, fun i hi => absurd hi (Nat.not_lt_zero _)⟩, ?_, fun f o h1 h2 => ?_, fun c o h1 h2 h3 => ?_⟩
  · unfold f_X8_add
    simp only [ss_let, sG_A, e5, gd_nI hw (show 12 < 2 ^ 31 by decide), if_true, nI_clamp (show g.1.2.2.1 < 2 ^ 31 by omega), q1, q2, ← hX]
    rw [x5, nIa1, sG_n _ _ (by decide), sG_m, show nI (g.1.2.2.1 + 1) - 1 = nI g.1.2.2.1 from nIs (b := 1) (by omega)]
  · rw [sG_n _ _ (by omega), sG_n _ _ (by omega), hX]; exact h.1.1
  · rw [sG_n _ _ (by omega), sG_n _ _ (by omega), hX]; exact h.1.2.1
  · rw [sG_n _ _ (by omega), sG_m]; rfl
  · rw [sG_n _ _ (by omega), sG_n _ _ (by omega), hX]; exact h.1.2.2.2.1
  · rw [sG_m]; rfl
  · have hi' : i < g.1.2.2.1 + 1 := hi
    rw [sA_G, sA_G, hX, sA_n _ _ (by omega), sA_n _ _ (by omega), sA_m]
    show upd (sA τ 17 0) g.1.2.2.1 (nI l) i = nI (if i = g.1.2.2.1 then l else g.2.1 i)
    unfold upd
    by_cases e : i = g.1.2.2.1
    · rw [if_pos e, if_pos e]
    · rw [if_neg e, if_neg e]; exact h.2.1 i (by omega)
  · rw [sA_G, sA_G, hX, sA_n _ _ (by omega), sA_n _ _ (by omega), sA_n _ _ (by omega)]; exact h.2.2.1 i hi
  · rw [sG_n _ _ (by omega), sG_n _ _ (by omega), hX]; exact h.2.2.2.1.1
  · rw [sG_n _ _ (by omega), sG_n _ _ (by omega), hX]; exact h.2.2.2.1.2.1
  · rw [sA_G, sA_G, hX, sA_n _ _ (by omega), sA_m]; exact ext h.2.2.2.1.2.2.1 i hi
  · rw [sA_G, sA_G, hX, sA_m]; exact ext h.2.2.2.1.2.2.2 i hi
  · rw [hX]; exact eM_2 (eM_2 (((eM_a (by decide)).tr (eM_a (by decide))).tr (eM_a (by decide))) (by decide)) (by decide)
  · rw [sG_n _ _ (by omega), sG_n _ _ (by omega), hX]; rfl
  · rw [sA_G, sA_G, hX, sA_n _ _ (by omega), sA_n _ _ (by omega), sA_n _ _ (by omega)]
theorem add_eC {σ σ' : ss_M} (hL : LAY σ) (h1 : ∀ f o, ¬ ((f = 5 ∨ f = 7) ∧ o = 0) → sG σ' f o = sG σ f o) (h2 : ∀ c o, ¬ ((c = 0 ∨ c = 1 ∨ c = 4) ∧ o = 0) → sA σ' c o = sA σ c o) (h3 : σ'.2.2 = σ.2.2) : eC σ σ' := by
  have hR : sR σ' = sR σ := by unfold sR; rw [h3]
  have hl : sL σ' = sL σ := by unfold sL; rw [h3]
  exact ⟨by unfold LAY; rw [hR]; exact hL, fun p q1 q2 => ⟨fun f _ _ => h1 f p (by omega), h2 4 p (by omega), h2 5 p (by omega), by rw [hR], fun k hk => ⟨h1 0 k (by omega), h1 1 k (by omega), h2 0 k (by omega), h2 1 k (by omega)⟩⟩, ⟨h1 8 0 (by omega), h2 11 0 (by omega)⟩, ⟨by rw [hl], by rw [hl]⟩, ⟨h1 14 0 (by omega), h1 15 0 (by omega), h1 16 0 (by omega)⟩, h2 101 0 (by omega)⟩
theorem sim_word {n : Nat} {σ τ : ss_M} (H : Cpl n σ τ) (p0 : Int32) : simI n (f_X7_word p0 σ) (f_X8_word p0 τ) := by
  by_cases h : 1 ≤ p0 ∧ p0 ≤ 9
  · obtain ⟨g, hg, hc, hm⟩ := H.2.1
    have e5 : sG σ 5 0 = nI g.1.2.2.1 := hc.1.2.2.1
    have m5 : sG τ 17 0 = nI g.1.2.2.1 := hm.1.2.2.1
    have h12 := hg.2.2.1
    by_cases hw : g.1.2.2.1 = 12
    · have r : f_X4_hasRoom 0 σ = some (0, σ) := by unfold f_X4_hasRoom; rw [e5, hw, if_pos (lle 12 12 (i := 12) (by decide) (by decide))]
      have m : sG τ 17 0 = 12 := by rw [m5, hw]; rfl
      simp only [f_X7_word, f_X8_word, v_ln1 h, w_in1 h, ss_bd_e, n10, if_false, r, m, if_true, v_full, w_full]
      exact ⟨_, _, _, rfl, rfl, R_full H⟩
    · have hw' : g.1.2.2.1 < 12 := by omega
      obtain ⟨l, l1, l2, rfl⟩ := i_mid (a := 1) (b := 9) (by omega) h.1 h.2 (by omega)
      obtain ⟨σ', a1, a2, a3, a4, a5⟩ := v_add (l := l) (by decide) hg hc hw'
      obtain ⟨τ', b1, b2, b3, -, -⟩ := w_add (l := l) hg hm hw'
      have r : f_X4_hasRoom 0 σ = some (1, σ) := by unfold f_X4_hasRoom; rw [e5, if_neg (lnle 12 12 hw')]
      have m : ¬ sG τ 17 0 = 12 := by rw [m5]; exact fun q => hw ((nI_eq (b := 12) (by omega) (by decide)).mp q)
      simp only [f_X7_word, f_X8_word, v_ln1 h, w_in1 h, ss_bd_e, n10, if_false, r, m, a1, b1, Option.bind_some]
      refine ⟨_, _, _, rfl, ?_, H.pg (add_eC H.1 a3 a4 a5) b3 ⟨gAdd g l, gAdd_ok hg.up hw' ⟨l1, l2⟩, a2, b2⟩⟩
      rw [a2.1.2.2.1]
      show some (nI g.1.2.2.1, τ') = some (nI (g.1.2.2.1 + 1) - 1, τ')
      rw [show nI (g.1.2.2.1 + 1) - 1 = nI g.1.2.2.1 from nIs (b := 1) (by omega)]
  · simp only [f_X7_word, f_X8_word, v_ln0 h, w_in0 h, ss_bd_e, if_true, v_bad, w_bad]
    exact ⟨_, _, _, rfl, rfl, R_bad H⟩
