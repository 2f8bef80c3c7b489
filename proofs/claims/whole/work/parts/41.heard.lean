/-! what was heard -/
theorem QC_a {σ : ss_M} (h : LAY σ) {c o : Nat} {v : Nat → Int32} (hc : 2 ≤ c ∧ c ≠ 4 ∧ c ≠ 5 ∧ c ≠ 11 ∧ c ≠ 101) : QC σ (sAu σ c o v) := ⟨eC_a h (by omega) (by omega), pgE_a (by omega) (by omega)⟩
theorem QC_s {σ : ss_M} (h : LAY σ) {f : Nat} {v : Int32} (hf : f = 2 ∨ (9 ≤ f ∧ f ≤ 13)) : QC σ (sGu σ f 0 v) := ⟨eC_s h (Or.inl rfl) (by omega), pgE_s (by omega) (by omega)⟩
theorem QM_a {τ : ss_M} {c o : Nat} {v : Nat → Int32} (hc : c ≠ 21 ∧ c ≠ 16 ∧ c ≠ 31 ∧ c ≠ 17 ∧ c ≠ 18 ∧ c ≠ 19 ∧ c ≠ 20 ∧ c ≠ 23) : QM τ (sAu τ c o v) := ⟨eM_a (by omega), ⟨⟨rfl, rfl, rfl, rfl, rfl, rfl, rfl⟩, by rw [sA_A, if_neg (by omega)], by rw [sA_A, if_neg (by omega)], by rw [sA_A, if_neg (by omega)], by rw [sA_A, if_neg (by omega)], by rw [sA_A, if_neg (by omega)]⟩⟩
theorem QM_s {τ : ss_M} {f o : Nat} {v : Int32} (hf : f = 24 ∨ f = 25 ∨ f = 26) : QM τ (sGu τ f o v) := ⟨eM_s (by omega), ⟨⟨by rw [sG_G, if_neg (by omega)], by rw [sG_G, if_neg (by omega)], by rw [sG_G, if_neg (by omega)], by rw [sG_G, if_neg (by omega)], by rw [sG_G, if_neg (by omega)], by rw [sG_G, if_neg (by omega)], by rw [sG_G, if_neg (by omega)]⟩, rfl, rfl, rfl, rfl, rfl⟩⟩
theorem QM.tr {a b c : ss_M} (h : QM a b) (k : QM b c) : QM a c := by
  obtain ⟨h1, ⟨a1, a2, a3, a4, a5, a6, a7⟩, b1, b2, b3, b4, b5⟩ := h
  obtain ⟨k1, ⟨c1, c2, c3, c4, c5, c6, c7⟩, d1, d2, d3, d4, d5⟩ := k
  exact ⟨h1.tr k1, ⟨c1.trans a1, c2.trans a2, c3.trans a3, c4.trans a4, c5.trans a5, c6.trans a6, c7.trans a7⟩, d1.trans b1, d2.trans b2, d3.trans b3, d4.trans b4, d5.trans b5⟩
def spHe (t : Nat → Bool) : Nat → Nat → Int32 → Int32
  | 0, _, acc => acc
  | m + 1, b, acc => spHe t m (b + 1) (if t b then acc ||| ((1 : Int32) <<< (nI b &&& 31)) else acc)
theorem v_he_L {n0 p : Nat} {g : pPg} {x : Int32} {t : Nat → Bool} {σ : ss_M} (hg : gOk n0 g) (h : cPg σ p g) (ht : ∀ b, b ≤ 30 → ((if gSt g b (-1) = g.1.2.2.1 then (-1 : Int32) else nI (gSt g b (-1))) = x ↔ t b = true)) : ∀ m b : Nat, b + m = 31 → ∀ acc n, m < n → f_X4_breathsStuckAt_L4 p x n acc (nI b) σ = some (spHe t m b acc, σ) := by
  intro m
  induction m with
  | zero =>
    intro b hb acc n hn
    obtain ⟨n', rfl⟩ : ∃ n', n = n' + 1 := ⟨n - 1, by omega⟩
    have : b = 31 := by omega
    subst this
    rw [f_X4_breathsStuckAt_L4, if_pos (show (30 : Int32) < nI 31 by decide), spHe]
  | succ m ih =>
    intro b hb acc n hn
    obtain ⟨n', rfl⟩ : ∃ n', n = n' + 1 := ⟨n - 1, by omega⟩
    rw [f_X4_breathsStuckAt_L4, if_neg (show ¬ (30 : Int32) < nI b from nI_nlt (b := b) (a := 30) (by omega) (by decide)), v_stuck (by omega) hg h, ss_bd_e, spHe]
    unfold f_X4_breathsStuckAt_j26
    rw [nIa1]
    by_cases q : t b = true
    · rw [if_pos ((ht b (by omega)).mpr q), if_pos q]
      exact ih (b + 1) (by omega) _ n' (by omega)
    · rw [if_neg (fun z => q ((ht b (by omega)).mp z)), if_neg q]
      exact ih (b + 1) (by omega) _ n' (by omega)
theorem w_he_L {n0 : Nat} {g : pPg} {x : Int32} {t : Nat → Bool} {τ : ss_M} (k : Int32 → ss_M → Option (Int32 × ss_M)) (hg : gOk n0 g) (h : mPg τ g) (ht : ∀ b, b ≤ 30 → (nI (gSt g b (-1)) = (if x = -1 then nI g.1.2.2.1 else x) ↔ t b = true)) : ∀ m b : Nat, b + m = 31 → ∀ acc n, m < n → f_X8_heard_L36 x k n acc (nI b) τ = k (spHe t m b acc) τ := by
  intro m
  induction m with
  | zero =>
    intro b hb acc n hn
    obtain ⟨n', rfl⟩ : ∃ n', n = n' + 1 := ⟨n - 1, by omega⟩
    have : b = 31 := by omega
    subst this
    rw [f_X8_heard_L36, if_pos (show (30 : Int32) < nI 31 by decide), spHe]
  | succ m ih =>
    intro b hb acc n hn
    obtain ⟨n', rfl⟩ : ∃ n', n = n' + 1 := ⟨n - 1, by omega⟩
    have hb' := ht b (by omega)
    have key : ∀ s, s = (if x = -1 then nI g.1.2.2.1 else x) → f_X8_heard_j62 acc (nI b) (f_X8_heard_L36 x k n') (nI (gSt g b (-1))) s τ = k (spHe t m (b + 1) (if t b then acc ||| ((1 : Int32) <<< (nI b &&& 31)) else acc)) τ := by
      intro s hs
      unfold f_X8_heard_j62 f_X8_heard_j72
      rw [nIa1, hs]
      by_cases q : t b = true
      · rw [if_pos (hb'.mpr q), if_pos q]
        exact ih (b + 1) (by omega) _ n' (by omega)
      · rw [if_neg (fun z => q (hb'.mp z)), if_neg q, Int32.or_zero]
        exact ih (b + 1) (by omega) _ n' (by omega)
    rw [f_X8_heard_L36, if_neg (show ¬ (30 : Int32) < nI b from nI_nlt (b := b) (a := 30) (by omega) (by decide)), w_stuck (by omega) hg h, ss_bd_e, spHe]
    by_cases hx : x = -1
    · rw [if_pos hx]
      exact key _ (by rw [if_pos hx]; exact h.1.2.2.1)
    · rw [if_neg hx]
      exact key _ (by rw [if_neg hx])
def gHe (g : pPg) (s : Int32) : pPg := ((g.1.1, g.1.2.1, g.1.2.2.1, g.1.2.2.2.1 + 1, g.1.2.2.2.2), g.2.1, upd g.2.2.1 g.1.2.2.2.1 s, g.2.2.2)
theorem sim_heard_in {n : Nat} {σ τ : ss_M} (H : Cpl n σ τ) (x : Int32) (t : Nat → Bool) {g : pPg} (hg : gOk n g) (hc : cPg σ 0 g) (hm : mPg τ g) (h1 : ∀ b, b ≤ 30 → ((if gSt g b (-1) = g.1.2.2.1 then (-1 : Int32) else nI (gSt g b (-1))) = x ↔ t b = true)) (h2 : ∀ b, b ≤ 30 → (nI (gSt g b (-1)) = (if x = -1 then nI g.1.2.2.1 else x) ↔ t b = true)) : simI n (f_X7_heard_j23 x σ) (f_X8_heard_j18 x τ) := by
  have e6 := hc.1.2.2.2.1
  have m6 := hm.1.2.2.2.1
  have h6 := hg.2.2.2.1
  unfold f_X7_heard_j23 f_X8_heard_j18
  rw [e6, m6]
  by_cases hh : g.1.2.2.2.1 = 6
  · rw [if_neg (by rw [hh]; decide), if_pos (by rw [hh]; rfl), v_full, w_full]
    exact ⟨_, _, _, rfl, rfl, R_full H⟩
  · rw [if_pos (show nI g.1.2.2.2.1 < (6 : Int32) from nI_lt (b := 6) (by omega) (by decide)), if_neg (show ¬ nI g.1.2.2.2.1 = (6 : Int32) from fun q => hh ((nI_eq (b := 6) (by omega) (by decide)).mp q))]
    have l1 := v_he_L hg hc h1 30 1 rfl 0 FU (FU_gt (by decide))
    have l2 := w_he_L f_X8_heard_j80 hg hm h2 30 1 rfl 0 FU (FU_gt (by decide))
    have e1 : f_X4_breathsStuckAt 0 x σ = some (spHe t 30 1 0, σ) := l1
    rw [e1, ss_bd_e]
    obtain ⟨s, hs⟩ : ∃ s, s = spHe t 30 1 0 := ⟨_, rfl⟩
    rw [← hs] at l2 ⊢
    refine ⟨nI (g.1.2.2.2.1 + 1), sGu (sAu σ 5 0 (upd (sA σ 5 0) g.1.2.2.2.1 s)) 6 0 (nI (g.1.2.2.2.1 + 1)), sGu (sAu τ 20 0 (upd (sA τ 20 0) g.1.2.2.2.1 s)) 22 0 (nI (g.1.2.2.2.1 + 1)), ?_, ?_, ?_⟩
    · unfold f_X4_addHeard
      rw [e6, if_pos (gd_nI (by omega) (by decide)), nI_clamp (by omega), ss_let, sG_A, e6, nIa1]
      show some (sG (sGu (sAu σ 5 0 (upd (sA σ 5 0) g.1.2.2.2.1 s)) 6 0 (nI (g.1.2.2.2.1 + 1))) 6 0, _) = _
      rw [sG_m]
    · refine Eq.trans l2 ?_
      unfold f_X8_heard_j80
      rw [m6, if_pos (gd_nI (by omega) (by decide)), nI_clamp (by omega), ss_let, sG_A, m6, nIa1, sG_m]
    · refine H.pg (eC_2 (eC_a H.1 (by omega) (by omega)) (by omega)) ((eM_a (by omega)).tr (eM_s (by omega))) ⟨gHe g s, ?_, ?_, ?_⟩
      · exact ⟨hg.1, hg.2.1, hg.2.2.1, (show g.1.2.2.2.1 + 1 ≤ 6 by omega), hg.up.2.2.2.2⟩
      · refine ⟨⟨hc.1.1, hc.1.2.1, hc.1.2.2.1, sG_m _ _ _ _, hc.1.2.2.2.2⟩, fun i hi => ?_, fun i hi => ?_, ?_, fun j hj => ?_⟩
        · rw [sA_G, sA_n _ _ (by omega)]; exact hc.2.1 i hi
        · have hi' : i < g.1.2.2.2.1 + 1 := hi
          rw [sA_G, sA_m]
          show upd (sA σ 5 0) g.1.2.2.2.1 s i = upd g.2.2.1 g.1.2.2.2.1 s i
          unfold upd
          by_cases e : i = g.1.2.2.2.1
          · rw [if_pos e, if_pos e]
          · rw [if_neg e, if_neg e]; exact hc.2.2.1 i (by omega)
        · exact hc.2.2.2.1.same ⟨rfl, rfl, sA_n _ _ (by omega), sA_n _ _ (by omega)⟩
        · exact (hc.2.2.2.2 j hj).same ⟨rfl, rfl, sA_n _ _ (by omega), sA_n _ _ (by omega)⟩
      · refine ⟨⟨hm.1.1, hm.1.2.1, hm.1.2.2.1, sG_m _ _ _ _, hm.1.2.2.2.2⟩, fun i hi => ?_, fun i hi => ?_, ⟨hm.2.2.2.1.1, hm.2.2.2.1.2.1, fun i hi => ?_, fun i hi => ?_⟩, fun j hj => ?_⟩
        · rw [sA_G, sA_n _ _ (by omega)]; exact hm.2.1 i hi
        · have hi' : i < g.1.2.2.2.1 + 1 := hi
          rw [sA_G, sA_m]
          show upd (sA τ 20 0) g.1.2.2.2.1 s i = upd g.2.2.1 g.1.2.2.2.1 s i
          unfold upd
          by_cases e : i = g.1.2.2.2.1
          · rw [if_pos e, if_pos e]
          · rw [if_neg e, if_neg e]; exact hm.2.2.1 i (by omega)
        · rw [sA_G, sA_n _ _ (by omega)]; exact hm.2.2.2.1.2.2.1 i hi
        · rw [sA_G, sA_n _ _ (by omega)]; exact hm.2.2.2.1.2.2.2 i hi
        · have e : sA (sGu (sAu τ 20 0 (upd (sA τ 20 0) g.1.2.2.2.1 s)) 22 0 (nI (g.1.2.2.2.1 + 1))) 23 0 = sA τ 23 0 := by rw [sA_G, sA_n _ _ (by omega)]
          rw [e]
          exact hm.2.2.2.2 j hj
theorem sim_heard {n : Nat} {σ τ : ss_M} (H : Cpl n σ τ) (p0 : Int32) : simI n (f_X7_heard p0 σ) (f_X8_heard p0 τ) := by
  obtain ⟨g, hg, hc, hm⟩ := H.2.1
  have e5 : sG σ 5 0 = nI g.1.2.2.1 := hc.1.2.2.1
  have m5 : sG τ 17 0 = nI g.1.2.2.1 := hm.1.2.2.1
  have h12 := hg.2.2.1
  by_cases hx : p0 = -1
  · unfold f_X7_heard f_X8_heard
    rw [if_pos hx, if_pos hx]
    refine sim_heard_in H p0 (fun b => decide (gSt g b (-1) = g.1.2.2.1)) hg hc hm (fun b hb => ?_) (fun b hb => ?_)
    · have := gSt_le g b (-1)
      by_cases q : gSt g b (-1) = g.1.2.2.1
      · simp [q, hx]
      · simp [q, hx, nm1 (show gSt g b (-1) < 2 ^ 31 by omega)]
    · have := gSt_le g b (-1)
      rw [if_pos hx, nI_eq (by omega) (by omega)]
      simp
  · unfold f_X7_heard f_X8_heard
    rw [if_neg hx, if_neg hx]
    by_cases h : isP p0 g.1.2.2.1
    · rw [v_has1 e5 h, w_pc1 m5 h12 h, ss_bd_e, ss_bd_e, if_neg n10, if_neg n10]
      obtain ⟨i, hi, rfl⟩ := isP_nI h12 h
      refine sim_heard_in H (nI i) (fun b => decide (gSt g b (-1) = i)) hg hc hm (fun b hb => ?_) (fun b hb => ?_)
      · have := gSt_le g b (-1)
        by_cases q : gSt g b (-1) = g.1.2.2.1
        · have : ¬ g.1.2.2.1 = i := by omega
          have z : ¬ (-1 : Int32) = nI i := fun z => nm1 (show i < 2 ^ 31 by omega) z.symm
          simp [q, this, z]
        · rw [if_neg q, nI_eq (by omega) (by omega)]
          simp
      · have := gSt_le g b (-1)
        rw [if_neg hx, nI_eq (by omega) (by omega)]
        simp
    · rw [v_has0 e5 h, w_pc0 m5 h12 h, ss_bd_e, ss_bd_e, if_pos rfl, if_pos rfl, v_bad, w_bad]
      exact ⟨_, _, _, rfl, rfl, R_bad H⟩
def spBr (hea : Nat → Int32) : Nat → Nat → Int32 → Int32
  | 0, _, acc => acc
  | m + 1, i, acc => spBr hea m (i + 1) (acc &&& hea i)
theorem v_br_L {p w : Nat} {hea : Nat → Int32} {σ : ss_M} (hw : w ≤ 6) (e6 : sG σ 6 p = nI w) (hh : ∀ i, i < w → sA σ 5 p i = hea i) : ∀ m i : Nat, i + m = w → ∀ acc n, m < n → f_X4_breathsHeard_L5 p n acc (nI i) σ = some (spBr hea m i acc, σ) := by
  intro m
  induction m with
  | zero =>
    intro i hi acc n hn
    obtain ⟨n', rfl⟩ : ∃ n', n = n' + 1 := ⟨n - 1, by omega⟩
    rw [f_X4_breathsHeard_L5, e6, if_pos (nI_le (by omega) (by omega)), spBr]
  | succ m ih =>
    intro i hi acc n hn
    obtain ⟨n', rfl⟩ : ∃ n', n = n' + 1 := ⟨n - 1, by omega⟩
    rw [f_X4_breathsHeard_L5, e6, if_neg (lit_nle (by omega) (by omega) (by omega)), if_pos (gd_nI (by omega) (by decide)), nI_clamp (by omega), hh i (by omega), nIa1, spBr]
    exact ih (i + 1) (by omega) _ n' (by omega)
theorem w_br_L {w : Nat} {hea : Nat → Int32} {τ : ss_M} (hw : w ≤ 6) (e6 : sG τ 22 0 = nI w) (hh : ∀ i, i < w → sA τ 20 0 i = hea i) : ∀ m i : Nat, i + m = w → ∀ acc n, m < n → f_X8_breathSet_L5 n acc (nI i) τ = some (spBr hea m i acc, τ) := by
  intro m
  induction m with
  | zero =>
    intro i hi acc n hn
    obtain ⟨n', rfl⟩ : ∃ n', n = n' + 1 := ⟨n - 1, by omega⟩
    rw [f_X8_breathSet_L5, e6, if_pos (nI_le (by omega) (by omega)), spBr]
  | succ m ih =>
    intro i hi acc n hn
    obtain ⟨n', rfl⟩ : ∃ n', n = n' + 1 := ⟨n - 1, by omega⟩
    rw [f_X8_breathSet_L5, e6, if_neg (lit_nle (by omega) (by omega) (by omega)), if_pos (gd_nI (by omega) (by decide)), nI_clamp (by omega), hh i (by omega), nIa1, spBr]
    exact ih (i + 1) (by omega) _ n' (by omega)
def gBr (g : pPg) : Int32 := spBr g.2.2.1 g.1.2.2.2.1 0 2147483646
theorem v_brs {n p : Nat} {g : pPg} {σ : ss_M} (hg : gOk n g) (h : cPg σ p g) : f_X4_breathsHeard p σ = some (gBr g, σ) := v_br_L hg.2.2.2.1 h.1.2.2.2.1 h.2.2.1 _ 0 (by omega) _ FU (FU_gt (by have := hg.2.2.2.1; omega))
theorem w_brs {n : Nat} {g : pPg} {τ : ss_M} (hg : gOk n g) (h : mPg τ g) : f_X8_breathSet τ = some (gBr g, τ) := w_br_L hg.2.2.2.1 h.1.2.2.2.1 h.2.2.1 _ 0 (by omega) _ FU (FU_gt (by have := hg.2.2.2.1; omega))
theorem sim_breaths {n : Nat} {σ τ : ss_M} (H : Cpl n σ τ) : simI n (f_X7_breaths σ) (f_X8_breaths τ) := by
  obtain ⟨g, hg, hc, hm⟩ := H.2.1
  unfold f_X7_breaths f_X8_breaths
  rw [v_brs hg hc, w_brs hg hm]
  exact simI.q H rfl rfl
