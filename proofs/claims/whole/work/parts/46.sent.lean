/-! sentences -/
def spSn (e : Nat → Bool) (w : Nat) : Nat → Nat → Nat → Nat → Nat → Int32 → Nat × Nat × Int32
  | 0, _, cnt, _, long, which => (cnt, long, which)
  | m + 1, i, cnt, start, long, which => if e i = true ∨ i + 1 = w then spSn e w m (i + 1) (cnt + 1) (i + 1) (max long (i + 1 - start)) (if i + 1 - start ≤ long then which else nI cnt) else spSn e w m (i + 1) cnt start long which
def spSe (e : Nat → Bool) : Nat → Nat → Nat → Nat
  | 0, _, c => c
  | m + 1, i, c => spSe e m (i + 1) (if e i then c + 1 else c)
theorem sn_count (e : Nat → Bool) (w : Nat) : ∀ m i cnt start long which, i + m = w → (spSn e w m i cnt start long which).1 = spSe e m i cnt + (if m = 0 ∨ e (w - 1) = true then 0 else 1) := by
  intro m
  induction m with
  | zero =>
    intro i cnt start long which hi
    rw [spSn, spSe, if_pos (Or.inl rfl)]
    rfl
  | succ m ih =>
    intro i cnt start long which hi
    rw [spSn, spSe]
    by_cases z : m = 0
    · subst z
      have hw : w - 1 = i := by omega
      rw [if_pos (Or.inr (by omega)), spSn, spSe, hw]
      cases q : e i <;> simp
    · by_cases q : e i = true
      · rw [if_pos (Or.inl q), if_pos q, ih _ _ _ _ _ (by omega)]
        congr 1
        by_cases y : e (w - 1) = true
        · rw [if_pos (Or.inr y), if_pos (Or.inr y)]
        · rw [if_neg (fun x => x.elim z y), if_neg (fun x => x.elim (by omega) y)]
      · rw [if_neg (fun x => x.elim q (by omega)), if_neg q, ih _ _ _ _ _ (by omega)]
        congr 1
        by_cases y : e (w - 1) = true
        · rw [if_pos (Or.inr y), if_pos (Or.inr y)]
        · rw [if_neg (fun x => x.elim z y), if_neg (fun x => x.elim (by omega) y)]
def gE (g : pPg) (i : Nat) : Bool := spEnd (g.2.2.2.1.2.2.1 i)
theorem b_i (b : Bool) : ((if b = true then (1 : Int32) else 0) = 0) = (b = false) := by cases b <;> simp
theorem v_sc {n0 : Nat} {g : pPg} {σ : ss_M} (k : Int32 → ss_M → Option (Int32 × ss_M)) (hg : gOk n0 g) (h : cPg σ 0 g) : ∀ m i : Nat, i + m = g.1.2.2.1 → ∀ c n, m < n → f_X4_howManySentences_L4 0 k n (nI c) (nI i) σ = k (nI (spSe (gE g) m i c)) σ := by
  have h12 := hg.2.2.1
  intro m
  induction m with
  | zero =>
    intro i hi c n hn
    obtain ⟨n', rfl⟩ : ∃ n', n = n' + 1 := ⟨n - 1, by omega⟩
    rw [f_X4_howManySentences_L4, h.1.2.2.1, if_pos (nI_le (by omega) (by omega)), spSe]
  | succ m ih =>
    intro i hi c n hn
    obtain ⟨n', rfl⟩ : ∃ n', n = n' + 1 := ⟨n - 1, by omega⟩
    rw [f_X4_howManySentences_L4, h.1.2.2.1, if_neg (lit_nle (by omega) (by omega) (by omega)), if_pos (gd_nI (by omega) (by decide)), nI_clamp (by omega), h.2.2.2.1.2.2.1 i (by omega), v_ends, ss_bd_e, spSe]
    unfold f_X4_howManySentences_j30
    rw [nIa1, nIa1]
    cases q : gE g i
    · rw [if_pos (by unfold gE at q; rw [q]; rfl), if_neg (by decide)]
      exact ih (i + 1) (by omega) c n' (by omega)
    · rw [if_neg (by unfold gE at q; rw [q]; decide), if_pos rfl]
      exact ih (i + 1) (by omega) (c + 1) n' (by omega)
theorem v_ln {n0 : Nat} {g : pPg} {σ : ss_M} (k : Int32 → Int32 → ss_M → Option (Int32 × ss_M)) (hg : gOk n0 g) (h : cPg σ 0 g) : ∀ m i : Nat, i + m = g.1.2.2.1 → ∀ cnt start long which n, start ≤ i → long ≤ i → cnt ≤ i → (m = 0 → start = i) → m < n → f_X4_longestSentence_L13 0 k n (nI (max long (i - start))) (if i - start ≤ long then which else nI cnt) (nI cnt) (nI (i - start)) (nI i) σ = k (nI (spSn (gE g) g.1.2.2.1 m i cnt start long which).2.1) (spSn (gE g) g.1.2.2.1 m i cnt start long which).2.2 σ := by
  have h12 := hg.2.2.1
  intro m
  induction m with
  | zero =>
    intro i hi cnt start long which n s1 s2 s3 s4 hn
    obtain ⟨n', rfl⟩ : ∃ n', n = n' + 1 := ⟨n - 1, by omega⟩
    have e0 : i - start = 0 := by have := s4 rfl; omega
    rw [f_X4_longestSentence_L13, h.1.2.2.1, if_pos (nI_le (by omega) (by omega)), spSn, e0, if_pos (Nat.zero_le _), Nat.max_eq_left (Nat.zero_le _)]
  | succ m ih =>
    intro i hi cnt start long which n s1 s2 s3 s4 hn
    obtain ⟨n', rfl⟩ : ∃ n', n = n' + 1 := ⟨n - 1, by omega⟩
    have e1 : i - start + 1 = i + 1 - start := by omega
    have key : ∀ x2 x3, x2 = nI (max long (i + 1 - start)) → x3 = (if i + 1 - start ≤ long then which else nI cnt) → f_X4_longestSentence_j37 0 (nI cnt) (nI i) (f_X4_longestSentence_L13 0 k n') x2 x3 (nI (i + 1 - start)) σ = k (nI (spSn (gE g) g.1.2.2.1 (m + 1) i cnt start long which).2.1) (spSn (gE g) g.1.2.2.1 (m + 1) i cnt start long which).2.2 σ := by
      intro x2 x3 y2 y3
      unfold f_X4_longestSentence_j37 f_X4_longestSentence_j59
      rw [if_pos (gd_nI (by omega) (by decide)), nI_clamp (by omega), h.2.2.2.1.2.2.1 i (by omega), v_ends, ss_bd_e, nIa1, nIa1, y2, y3, spSn]
      cases q : gE g i
      · rw [if_pos (by unfold gE at q; rw [q]; rfl)]
        by_cases z : i + 1 = g.1.2.2.1
        · have m0 : m = 0 := by omega
          subst m0
          obtain ⟨n2, rfl⟩ : ∃ n2, n' = n2 + 1 := ⟨n' - 1, by omega⟩
          rw [if_pos (Or.inr z), f_X4_longestSentence_L13, h.1.2.2.1, if_pos (nI_le (by omega) (by omega)), spSn]
        · rw [if_neg (show ¬ (false = true ∨ i + 1 = g.1.2.2.1) from fun x => x.elim (by decide) z)]
          exact ih (i + 1) (by omega) cnt start long which n' (by omega) (by omega) (by omega) (by omega) (by omega)
      · rw [if_neg (by unfold gE at q; rw [q]; decide), if_pos (Or.inl rfl)]
        have := ih (i + 1) (by omega) (cnt + 1) (i + 1) (max long (i + 1 - start)) (if i + 1 - start ≤ long then which else nI cnt) n' (by omega) (by omega) (by omega) (fun _ => rfl) (by omega)
        rw [Nat.sub_self, if_pos (Nat.zero_le _), Nat.max_eq_left (Nat.zero_le _)] at this
        exact this
    rw [f_X4_longestSentence_L13, h.1.2.2.1, if_neg (lit_nle (by omega) (by omega) (by omega)), nIa1, e1]
    by_cases q : i + 1 - start ≤ long
    · rw [if_pos (nI_le (show i + 1 - start ≤ max long (i - start) by omega) (by omega))]
      refine key _ _ ?_ ?_
      · congr 1
        omega
      · rw [if_pos (show i - start ≤ long by omega), if_pos q]
    · rw [if_neg (lit_nle (by omega) (by omega) (show max long (i - start) < i + 1 - start by omega))]
      refine key _ _ ?_ ?_
      · congr 1
        omega
      · rw [if_neg q]
theorem w_sn {n0 : Nat} {g : pPg} {τ : ss_M} (k : Int32 → Int32 → Int32 → ss_M → Option (Int32 × ss_M)) (hg : gOk n0 g) (h : mPg τ g) : ∀ m i : Nat, i + m = g.1.2.2.1 → ∀ cnt start long which n, start ≤ i → long ≤ i → cnt ≤ i → m < n → f_X8_sentences_L27 k n (nI cnt) (nI start) (nI long) which (nI i) τ = k (nI (spSn (gE g) g.1.2.2.1 m i cnt start long which).1) (nI (spSn (gE g) g.1.2.2.1 m i cnt start long which).2.1) (spSn (gE g) g.1.2.2.1 m i cnt start long which).2.2 τ := by
  have h12 := hg.2.2.1
  intro m
  induction m with
  | zero =>
    intro i hi cnt start long which n s1 s2 s3 hn
    obtain ⟨n', rfl⟩ : ∃ n', n = n' + 1 := ⟨n - 1, by omega⟩
    rw [f_X8_sentences_L27, h.1.2.2.1, if_pos (nI_le (by omega) (by omega)), spSn]
  | succ m ih =>
    intro i hi cnt start long which n s1 s2 s3 hn
    obtain ⟨n', rfl⟩ : ∃ n', n = n' + 1 := ⟨n - 1, by omega⟩
    have key : f_X8_sentences_j60 (nI cnt) (nI start) (nI long) which (nI i) (f_X8_sentences_L27 k n') τ = k (nI (spSn (gE g) g.1.2.2.1 m (i + 1) (cnt + 1) (i + 1) (max long (i + 1 - start)) (if i + 1 - start ≤ long then which else nI cnt)).1) (nI (spSn (gE g) g.1.2.2.1 m (i + 1) (cnt + 1) (i + 1) (max long (i + 1 - start)) (if i + 1 - start ≤ long then which else nI cnt)).2.1) (spSn (gE g) g.1.2.2.1 m (i + 1) (cnt + 1) (i + 1) (max long (i + 1 - start)) (if i + 1 - start ≤ long then which else nI cnt)).2.2 τ := by
      unfold f_X8_sentences_j60 f_X8_sentences_j81 f_X8_sentences_j100
      rw [nIa1, nIa1, nIs (by omega), w_grt (by omega) (by omega), ss_bd_e, ss_bd_e]
      by_cases q : i + 1 - start ≤ long
      · rw [if_pos (nI_le q (by omega)), if_pos q]
        exact ih (i + 1) (by omega) (cnt + 1) (i + 1) _ which n' (by omega) (by omega) (by omega) (by omega)
      · rw [if_neg (lit_nle (by omega) (by omega) (by omega)), if_neg q]
        exact ih (i + 1) (by omega) (cnt + 1) (i + 1) _ (nI cnt) n' (by omega) (by omega) (by omega) (by omega)
    rw [f_X8_sentences_L27, h.1.2.2.1, if_neg (lit_nle (by omega) (by omega) (by omega)), if_pos (gd_nI (by omega) (by decide)), nI_clamp (by omega), h.2.2.2.1.2.2.1 i (by omega), w_ends (hg.2.2.2.2.2.2.1.2.2 i (by omega)), ss_bd_e, h.1.2.2.1, show (1 : Int32) = nI 1 from rfl, nIs (show 1 ≤ g.1.2.2.1 by omega), spSn]
    cases q : gE g i
    · rw [if_pos (by unfold gE at q; rw [q]; rfl)]
      by_cases z : i + 1 = g.1.2.2.1
      · rw [if_pos (show nI i = nI (g.1.2.2.1 - 1) by congr 1; omega), if_pos (Or.inr z)]
        exact key
      · rw [if_neg (show ¬ nI i = nI (g.1.2.2.1 - 1) from fun x => by have := (nI_eq (by omega) (by omega)).mp x; omega), if_neg (fun x => x.elim (by decide) z)]
        unfold f_X8_sentences_j100
        rw [nIa1]
        exact ih (i + 1) (by omega) cnt start long which n' (by omega) (by omega) (by omega) (by omega)
    · rw [if_neg (by unfold gE at q; rw [q]; decide), if_pos (Or.inl rfl)]
      exact key
theorem v_lastE {n0 : Nat} {g : pPg} {σ : ss_M} (hg : gOk n0 g) (h : cPg σ 0 g) : f_X4_lastIsEnded 0 σ = some (if 0 < g.1.2.2.1 ∧ gE g (g.1.2.2.1 - 1) = true then 1 else 0, σ) := by
  have h12 := hg.2.2.1
  unfold f_X4_lastIsEnded
  rw [h.1.2.2.1]
  by_cases z : g.1.2.2.1 = 0
  · rw [z, if_pos (by decide), if_neg (by omega)]
  · rw [if_neg (rnle 0 0 (by omega) (by omega)), show (1 : Int32) = nI 1 from rfl, nIs (show 1 ≤ g.1.2.2.1 by omega), if_pos (gd_nI (by omega) (by decide)), nI_clamp (by omega), h.2.2.2.1.2.2.1 _ (by omega), v_ends, ss_bd_e]
    cases q : gE g (g.1.2.2.1 - 1)
    · rw [if_pos (by unfold gE at q; rw [q]; rfl), if_neg (by simp)]
    · rw [if_neg (by unfold gE at q; rw [q]; decide), if_pos ⟨by omega, rfl⟩]
theorem w_j106 {n0 : Nat} {g : pPg} {τ : ss_M} (p0 a b c : Int32) (hg : gOk n0 g) (h : mPg τ g) : f_X8_sentences_j106 p0 a b c τ = f_X8_sentences_j135 p0 a b c (if 0 < g.1.2.2.1 ∧ gE g (g.1.2.2.1 - 1) = true then 1 else 0) τ := by
  have h12 := hg.2.2.1
  unfold f_X8_sentences_j106 f_X8_sentences_j134
  rw [h.1.2.2.1]
  by_cases z : g.1.2.2.1 = 0
  · rw [z, if_pos (by decide), if_neg (by omega)]
  · rw [if_neg (rnle 0 0 (by omega) (by omega)), show (1 : Int32) = nI 1 from rfl, nIs (show 1 ≤ g.1.2.2.1 by omega), if_pos (gd_nI (by omega) (by decide)), nI_clamp (by omega), h.2.2.2.1.2.2.1 _ (by omega), w_ends (hg.2.2.2.2.2.2.1.2.2 _ (by omega)), ss_bd_e]
    cases q : gE g (g.1.2.2.1 - 1)
    · rw [if_pos (by unfold gE at q; rw [q]; rfl), if_neg (by simp)]
    · rw [if_neg (by unfold gE at q; rw [q]; decide), if_pos ⟨by omega, rfl⟩]
theorem sim_sentences {n : Nat} {σ τ : ss_M} (H : Cpl n σ τ) (p0 : Int32) : simI n (f_X7_sentences p0 σ) (f_X8_sentences p0 τ) := by
  obtain ⟨g, hg, hc, hm⟩ := H.2.1
  have h12 := hg.2.2.1
  by_cases h : 0 ≤ p0 ∧ p0 ≤ 3
  · have w1 : f_X8_sentences p0 τ = f_X8_sentences_j135 p0 (nI (spSn (gE g) g.1.2.2.1 g.1.2.2.1 0 0 0 0 (-1)).1) (nI (spSn (gE g) g.1.2.2.1 g.1.2.2.1 0 0 0 0 (-1)).2.1) (spSn (gE g) g.1.2.2.1 g.1.2.2.1 0 0 0 0 (-1)).2.2 (if 0 < g.1.2.2.1 ∧ gE g (g.1.2.2.1 - 1) = true then 1 else 0) τ := by
      unfold f_X8_sentences
      rw [w_in1 h, ss_bd_e, if_neg n10, ← w_j106 p0 _ _ _ hg hm]
      exact w_sn (f_X8_sentences_j106 p0) hg hm _ 0 (Nat.zero_add _) 0 0 0 (-1) FU (by omega) (by omega) (by omega) (FU_gt (by omega))
    have v1 : ∀ b, f_X4_longestSentence 0 b σ = f_X4_longestSentence_j65 b (nI (spSn (gE g) g.1.2.2.1 g.1.2.2.1 0 0 0 0 (-1)).2.1) (spSn (gE g) g.1.2.2.1 g.1.2.2.1 0 0 0 0 (-1)).2.2 σ := fun b => v_ln (f_X4_longestSentence_j65 b) hg hc _ 0 (Nat.zero_add _) 0 0 0 (-1) FU (by omega) (by omega) (by omega) (fun _ => rfl) (FU_gt (by omega))
    have v2 : f_X4_howManySentences 0 σ = some (nI (spSn (gE g) g.1.2.2.1 g.1.2.2.1 0 0 0 0 (-1)).1, σ) := by
      have e := v_sc (f_X4_howManySentences_j36 0) hg hc g.1.2.2.1 0 (Nat.zero_add _) 0 FU (FU_gt (by omega))
      have e' : f_X4_howManySentences 0 σ = f_X4_howManySentences_j36 0 (nI (spSe (gE g) g.1.2.2.1 0 0)) σ := e
      rw [e', sn_count (gE g) g.1.2.2.1 g.1.2.2.1 0 0 0 0 (-1) (Nat.zero_add _)]
      unfold f_X4_howManySentences_j36 f_X4_howManySentences_j50
      rw [hc.1.2.2.1]
      by_cases z : g.1.2.2.1 = 0
      · rw [if_pos (by rw [z]; rfl), if_pos (Or.inl z)]
        rfl
      · rw [if_neg (nI_ne0 (by omega) (by omega)), v_lastE hg hc, ss_bd_e, nIa1]
        by_cases q : gE g (g.1.2.2.1 - 1) = true
        · rw [if_pos (show 0 < g.1.2.2.1 ∧ _ from ⟨by omega, q⟩), if_neg n10, if_pos (Or.inr q)]
          rfl
        · rw [if_neg (show ¬ (0 < g.1.2.2.1 ∧ _) from fun x => q x.2), if_pos rfl, if_neg (fun x => x.elim z q)]
    rw [w1]
    unfold f_X7_sentences f_X8_sentences_j135
    rcases i_03 h with rfl | rfl | rfl | rfl
    · rw [if_pos rfl, if_pos rfl, v2, ss_bd_e]
      exact simI.q H rfl rfl
    · rw [if_neg n10, if_pos rfl, if_neg n10, if_pos rfl, v_lastE hg hc, ss_bd_e]
      by_cases q : (if 0 < g.1.2.2.1 ∧ gE g (g.1.2.2.1 - 1) = true then (1 : Int32) else 0) = 0
      · rw [if_pos q, if_pos q]
        exact simI.q H rfl rfl
      · rw [if_neg q, if_neg q]
        exact simI.q H rfl rfl
    · rw [if_neg (by decide), if_neg (by decide), if_pos rfl, if_neg (by decide), if_neg (by decide), if_pos rfl, v1, ]
      unfold f_X4_longestSentence_j65
      rw [if_pos rfl, ss_bd_e]
      exact simI.q H rfl rfl
    · rw [if_neg (by decide), if_neg (by decide), if_neg (by decide), if_pos rfl, if_neg (by decide), if_neg (by decide), if_neg (by decide), v1]
      unfold f_X4_longestSentence_j65
      rw [if_neg n10, ss_bd_e]
      exact simI.q H rfl rfl
  · have q0 : ¬ p0 = 0 := fun q => h (by rw [q]; decide)
    have q1 : ¬ p0 = 1 := fun q => h (by rw [q]; decide)
    have q2 : ¬ p0 = 2 := fun q => h (by rw [q]; decide)
    have q3 : ¬ p0 = 3 := fun q => h (by rw [q]; decide)
    unfold f_X7_sentences f_X8_sentences
    rw [w_in0 h, ss_bd_e, if_pos rfl, if_neg q0, if_neg q1, if_neg q2, if_neg q3, v_bad, w_bad]
    exact ⟨_, _, _, rfl, rfl, R_bad H⟩
