/-! counting, digest -/
def spMk (kin : Nat → Int32) : Nat → Nat → Int32 → Int32
  | 0, _, acc => acc
  | m + 1, i, acc => spMk kin m (i + 1) (if kin i = -1 then acc else acc + 1)
theorem v_mk_L {p w : Nat} {kin : Nat → Int32} {σ : ss_M} (hw : w ≤ 12) (e5 : sG σ 5 p = nI w) (hh : ∀ i, i < w → sA σ 0 p i = kin i) : ∀ m i : Nat, i + m = w → ∀ acc n, m < n → f_X4_howManyMarks_L4 p n acc (nI i) σ = some (spMk kin m i acc, σ) := by
  intro m
  induction m with
  | zero =>
    intro i hi acc n hn
    obtain ⟨n', rfl⟩ : ∃ n', n = n' + 1 := ⟨n - 1, by omega⟩
    rw [f_X4_howManyMarks_L4, e5, if_pos (nI_le (by omega) (by omega)), spMk]
  | succ m ih =>
    intro i hi acc n hn
    obtain ⟨n', rfl⟩ : ∃ n', n = n' + 1 := ⟨n - 1, by omega⟩
    rw [f_X4_howManyMarks_L4, e5, if_neg (lit_nle (by omega) (by omega) (by omega)), if_pos (gd_nI (by omega) (by decide)), nI_clamp (by omega), hh i (by omega), spMk]
    unfold f_X4_howManyMarks_j28
    rw [nIa1]
    by_cases q : kin i = -1
    · rw [if_pos q, if_pos q]
      exact ih (i + 1) (by omega) _ n' (by omega)
    · rw [if_neg q, if_neg q]
      exact ih (i + 1) (by omega) _ n' (by omega)
theorem w_mk_L {w : Nat} {kin : Nat → Int32} {τ : ss_M} (k : Int32 → ss_M → Option (Int32 × ss_M)) (hw : w ≤ 12) (e5 : sG τ 17 0 = nI w) (hh : ∀ i, i < w → sA τ 18 0 i = kin i) : ∀ m i : Nat, i + m = w → ∀ acc n, m < n → f_X8_countOf_L4 k n acc (nI i) τ = k (spMk kin m i acc) τ := by
  intro m
  induction m with
  | zero =>
    intro i hi acc n hn
    obtain ⟨n', rfl⟩ : ∃ n', n = n' + 1 := ⟨n - 1, by omega⟩
    rw [f_X8_countOf_L4, e5, if_pos (nI_le (by omega) (by omega)), spMk]
  | succ m ih =>
    intro i hi acc n hn
    obtain ⟨n', rfl⟩ : ∃ n', n = n' + 1 := ⟨n - 1, by omega⟩
    rw [f_X8_countOf_L4, e5, if_neg (lit_nle (by omega) (by omega) (by omega)), if_pos (gd_nI (by omega) (by decide)), nI_clamp (by omega), hh i (by omega), spMk]
    unfold f_X8_countOf_j28
    rw [nIa1]
    by_cases q : kin i = -1
    · rw [if_pos q, if_pos q, Int32.add_zero]
      exact ih (i + 1) (by omega) _ n' (by omega)
    · rw [if_neg q, if_neg q]
      exact ih (i + 1) (by omega) _ n' (by omega)
def gMk (g : pPg) : Int32 := spMk g.2.2.2.1.2.2.1 g.1.2.2.1 0 0
theorem v_marks {n p : Nat} {g : pPg} {σ : ss_M} (hg : gOk n g) (h : cPg σ p g) : f_X4_howManyMarks p σ = some (gMk g, σ) := v_mk_L hg.2.2.1 h.1.2.2.1 h.2.2.2.1.2.2.1 _ 0 (by omega) _ FU (FU_gt (by have := hg.2.2.1; omega))
def spCo (g : pPg) (T : Nat) (x : Int32) : Int32 := if x = 0 then nI g.1.2.2.1 else if x = 1 then gMk g else if x = 2 then nI g.1.1 else if x = 3 then nI g.1.2.1 else if x = 4 then nI g.2.2.2.1.1 else if x = 5 then nI g.2.2.2.1.2.1 else if x = 6 then nI g.1.2.2.2.1 else if x = 7 then nI g.1.2.2.2.2 else nI T
theorem v_co {n T : Nat} {g : pPg} {σ : ss_M} (x : Int32) (hg : gOk n g) (h : cPg σ 0 g) (ht : sG σ 8 0 = nI T) : f_X7_countOf x σ = some (spCo g T x, σ) := by
  unfold f_X7_countOf spCo
  rw [h.1.2.2.1, h.1.1, h.1.2.1, h.1.2.2.2.1, h.1.2.2.2.2, h.2.2.2.1.1, h.2.2.2.1.2.1, ht, v_marks hg h, ss_bd_e]
  by_cases q0 : x = 0
  · rw [if_pos q0, if_pos q0]
  rw [if_neg q0, if_neg q0]
  by_cases q1 : x = 1
  · rw [if_pos q1, if_pos q1]
  rw [if_neg q1, if_neg q1]
  by_cases q2 : x = 2
  · rw [if_pos q2, if_pos q2]
  rw [if_neg q2, if_neg q2]
  by_cases q3 : x = 3
  · rw [if_pos q3, if_pos q3]
  rw [if_neg q3, if_neg q3]
  by_cases q4 : x = 4
  · rw [if_pos q4, if_pos q4]
  rw [if_neg q4, if_neg q4]
  by_cases q5 : x = 5
  · rw [if_pos q5, if_pos q5]
  rw [if_neg q5, if_neg q5]
  by_cases q6 : x = 6
  · rw [if_pos q6, if_pos q6]
  rw [if_neg q6, if_neg q6]
  by_cases q7 : x = 7
  · rw [if_pos q7, if_pos q7]
  rw [if_neg q7, if_neg q7]
theorem w_co {n T : Nat} {g : pPg} {τ : ss_M} (x : Int32) (hg : gOk n g) (h : mPg τ g) (ht : sG τ 23 0 = nI T) : f_X8_countOf x τ = some (spCo g T x, τ) := by
  have e := w_mk_L (f_X8_countOf_j36 x) hg.2.2.1 h.1.2.2.1 h.2.2.2.1.2.2.1 _ 0 (Nat.zero_add _) 0 FU (FU_gt (by have := hg.2.2.1; omega))
  unfold f_X8_countOf
  refine Eq.trans e ?_
  unfold f_X8_countOf_j36 spCo
  rw [h.1.2.2.1, h.1.1, h.1.2.1, h.1.2.2.2.1, h.1.2.2.2.2, h.2.2.2.1.1, h.2.2.2.1.2.1, ht]
  show (if x = 0 then _ else if x = 1 then some (gMk g, τ) else _) = _
  by_cases q0 : x = 0
  · rw [if_pos q0, if_pos q0]
  rw [if_neg q0, if_neg q0]
  by_cases q1 : x = 1
  · rw [if_pos q1, if_pos q1]
  rw [if_neg q1, if_neg q1]
  by_cases q2 : x = 2
  · rw [if_pos q2, if_pos q2]
  rw [if_neg q2, if_neg q2]
  by_cases q3 : x = 3
  · rw [if_pos q3, if_pos q3]
  rw [if_neg q3, if_neg q3]
  by_cases q4 : x = 4
  · rw [if_pos q4, if_pos q4]
  rw [if_neg q4, if_neg q4]
  by_cases q5 : x = 5
  · rw [if_pos q5, if_pos q5]
  rw [if_neg q5, if_neg q5]
  by_cases q6 : x = 6
  · rw [if_pos q6, if_pos q6]
  rw [if_neg q6, if_neg q6]
  by_cases q7 : x = 7
  · rw [if_pos q7, if_pos q7]
  rw [if_neg q7, if_neg q7]
theorem sim_count {n : Nat} {σ τ : ss_M} (H : Cpl n σ τ) (p0 : Int32) : simI n (f_X7_count p0 σ) (f_X8_count p0 τ) := by
  obtain ⟨g, hg, hc, hm⟩ := H.2.1
  obtain ⟨T, -, t2, t3, -⟩ := H.2.2.1
  unfold f_X7_count f_X8_count
  by_cases h : 0 ≤ p0 ∧ p0 ≤ 8
  · rw [v_in1 h, w_in1 h, ss_bd_e, ss_bd_e, if_neg n10, if_neg n10, v_co p0 hg hc t2, w_co p0 hg hm t3]
    exact simI.q H rfl rfl
  · rw [v_in0 h, w_in0 h, ss_bd_e, ss_bd_e, if_pos rfl, if_pos rfl, v_bad, w_bad]
    exact ⟨_, _, _, rfl, rfl, R_bad H⟩
theorem sL_m (σ : ss_M) (f : Nat) (v : Int64) : sL (sLu σ f v) f = v := by rw [sL_L, if_pos rfl]
theorem sL_n (σ : ss_M) {f f' : Nat} (v : Int64) (h : ¬ f' = f) : sL (sLu σ f v) f' = sL σ f' := by rw [sL_L, if_neg h]
theorem sL_2 (σ : ss_M) (f : Nat) (a b : Int64) : sLu (sLu σ f a) f b = sLu σ f b := by
  unfold sLu
  refine Prod.ext rfl (Prod.ext rfl (Prod.ext ?_ rfl))
  funext f'
  by_cases q : f' = f
  · simp [q]
  · simp [q]
theorem QM_l {τ : ss_M} {v : Int64} : QM τ (sLu τ 4 v) := ⟨⟨⟨rfl, rfl⟩, ⟨sL_n _ _ (by decide), sL_n _ _ (by decide)⟩, rfl, rfl⟩, ⟨⟨rfl, rfl, rfl, rfl, rfl, rfl, rfl⟩, rfl, rfl, rfl, rfl, rfl⟩⟩
theorem w_mix (x a : Int64) (τ : ss_M) : f_X8_mix x (sLu τ 4 a) = some (sLu τ 4 (31 * a + x)) := by
  unfold f_X8_mix
  rw [sL_m, sL_2]
def spFo (f : Nat → Int64 → Int64) : Nat → Nat → Int64 → Int64
  | 0, _, a => a
  | m + 1, i, a => spFo f m (i + 1) (f i a)
theorem v_d1 {n0 T : Nat} {g : pPg} {σ : ss_M} (k : Int64 → ss_M → Option (Int64 × ss_M)) (hg : gOk n0 g) (h : cPg σ 0 g) (ht : sG σ 8 0 = nI T) : ∀ m i : Nat, i + m = 9 → ∀ acc n, m < n → f_X7_digest_L6 k n acc (nI i) σ = k (spFo (fun i a => 31 * a + (spCo g T (nI i)).toInt64) m i acc) σ := by
  intro m
  induction m with
  | zero =>
    intro i hi acc n hn
    obtain ⟨n', rfl⟩ : ∃ n', n = n' + 1 := ⟨n - 1, by omega⟩
    rw [f_X7_digest_L6, if_pos (lle 9 9 (i := i) (by omega) (by omega)), spFo]
  | succ m ih =>
    intro i hi acc n hn
    obtain ⟨n', rfl⟩ : ∃ n', n = n' + 1 := ⟨n - 1, by omega⟩
    rw [f_X7_digest_L6, if_neg (lnle 9 9 (i := i) (by omega)), v_co _ hg h ht, ss_bd_e, nIa1, spFo]
    exact ih (i + 1) (by omega) _ n' (by omega)
theorem w_d1 {n0 T : Nat} {g : pPg} {τ : ss_M} (k : ss_M → Option (Int64 × ss_M)) (hg : gOk n0 g) (h : mPg τ g) (ht : sG τ 23 0 = nI T) : ∀ m i : Nat, i + m = 9 → ∀ acc n, m < n → f_X8_digest_L9 k n (nI i) (sLu τ 4 acc) = k (sLu τ 4 (spFo (fun i a => 31 * a + (spCo g T (nI i)).toInt64) m i acc)) := by
  intro m
  induction m with
  | zero =>
    intro i hi acc n hn
    obtain ⟨n', rfl⟩ : ∃ n', n = n' + 1 := ⟨n - 1, by omega⟩
    have : i = 9 := by omega
    subst this
    rw [f_X8_digest_L9, if_pos (show (8 : Int32) < nI 9 by decide), spFo]
  | succ m ih =>
    intro i hi acc n hn
    obtain ⟨n', rfl⟩ : ∃ n', n = n' + 1 := ⟨n - 1, by omega⟩
    rw [f_X8_digest_L9, if_neg (show ¬ (8 : Int32) < nI i from nI_nlt (b := i) (a := 8) (by omega) (by decide)), w_co (τ := sLu τ 4 acc) _ hg h ht, ss_bd_e, w_mix, Option.bind_some, nIa1, spFo]
    exact ih (i + 1) (by omega) _ n' (by omega)
def spWd (g : pPg) (i : Nat) (a : Int64) : Int64 := 31 * (31 * (31 * a + (nI (g.2.1 i)).toInt64) + (g.2.2.2.1.2.2.1 i).toInt64) + (g.2.2.2.1.2.2.2 i).toInt64
theorem v_d2 {n0 : Nat} {g : pPg} {σ : ss_M} (k : Int64 → ss_M → Option (Int64 × ss_M)) (hg : gOk n0 g) (h : cPg σ 0 g) : ∀ m i : Nat, i + m = g.1.2.2.1 → ∀ acc n, m < n → f_X7_digest_L33 k n acc (nI i) σ = k (spFo (spWd g) m i acc) σ := by
  have hw := hg.2.2.1
  intro m
  induction m with
  | zero =>
    intro i hi acc n hn
    obtain ⟨n', rfl⟩ : ∃ n', n = n' + 1 := ⟨n - 1, by omega⟩
    rw [f_X7_digest_L33, h.1.2.2.1, if_pos (nI_le (by omega) (by omega)), spFo]
  | succ m ih =>
    intro i hi acc n hn
    obtain ⟨n', rfl⟩ : ∃ n', n = n' + 1 := ⟨n - 1, by omega⟩
    have e : gd (nI i) 12 = true := gd_nI (by omega) (by decide)
    rw [f_X7_digest_L33, h.1.2.2.1, if_neg (lit_nle (by omega) (by omega) (by omega)), if_pos e, if_pos e, if_pos e, nI_clamp (by omega), h.2.1 i (by omega), h.2.2.2.1.2.2.1 i (by omega), h.2.2.2.1.2.2.2 i (by omega), nIa1, spFo]
    exact ih (i + 1) (by omega) _ n' (by omega)
theorem w_d2 {n0 : Nat} {g : pPg} {τ : ss_M} (k : ss_M → Option (Int64 × ss_M)) (hg : gOk n0 g) (h : mPg τ g) : ∀ m i : Nat, i + m = g.1.2.2.1 → ∀ acc n, m < n → f_X8_digest_L33 k n (nI i) (sLu τ 4 acc) = k (sLu τ 4 (spFo (spWd g) m i acc)) := by
  have hw := hg.2.2.1
  intro m
  induction m with
  | zero =>
    intro i hi acc n hn
    obtain ⟨n', rfl⟩ : ∃ n', n = n' + 1 := ⟨n - 1, by omega⟩
    rw [f_X8_digest_L33, sG_L, h.1.2.2.1, if_pos (nI_le (by omega) (by omega)), spFo]
  | succ m ih =>
    intro i hi acc n hn
    obtain ⟨n', rfl⟩ : ∃ n', n = n' + 1 := ⟨n - 1, by omega⟩
    have e : gd (nI i) 12 = true := gd_nI (by omega) (by decide)
    rw [f_X8_digest_L33, sG_L, h.1.2.2.1, if_neg (lit_nle (by omega) (by omega) (by omega)), if_pos e, nI_clamp (by omega), sA_L, h.2.1 i (by omega), w_mix, Option.bind_some, if_pos e, sA_L, h.2.2.2.1.2.2.1 i (by omega), w_mix, Option.bind_some, if_pos e, sA_L, h.2.2.2.1.2.2.2 i (by omega), w_mix, Option.bind_some, nIa1, spFo]
    exact ih (i + 1) (by omega) _ n' (by omega)
def spHd (g : pPg) (i : Nat) (a : Int64) : Int64 := 31 * a + (g.2.2.1 i).toInt64
theorem v_d3 {n0 : Nat} {g : pPg} {σ : ss_M} (k : Int64 → ss_M → Option (Int64 × ss_M)) (hg : gOk n0 g) (h : cPg σ 0 g) : ∀ m i : Nat, i + m = g.1.2.2.2.1 → ∀ acc n, m < n → f_X7_digest_L109 k n acc (nI i) σ = k (spFo (spHd g) m i acc) σ := by
  have hw := hg.2.2.2.1
  intro m
  induction m with
  | zero =>
    intro i hi acc n hn
    obtain ⟨n', rfl⟩ : ∃ n', n = n' + 1 := ⟨n - 1, by omega⟩
    rw [f_X7_digest_L109, h.1.2.2.2.1, if_pos (nI_le (by omega) (by omega)), spFo]
  | succ m ih =>
    intro i hi acc n hn
    obtain ⟨n', rfl⟩ : ∃ n', n = n' + 1 := ⟨n - 1, by omega⟩
    rw [f_X7_digest_L109, h.1.2.2.2.1, if_neg (lit_nle (by omega) (by omega) (by omega)), if_pos (gd_nI (by omega) (by decide)), nI_clamp (by omega), h.2.2.1 i (by omega), nIa1, spFo]
    exact ih (i + 1) (by omega) _ n' (by omega)
theorem w_d3 {n0 : Nat} {g : pPg} {τ : ss_M} (k : ss_M → Option (Int64 × ss_M)) (hg : gOk n0 g) (h : mPg τ g) : ∀ m i : Nat, i + m = g.1.2.2.2.1 → ∀ acc n, m < n → f_X8_digest_L82 k n (nI i) (sLu τ 4 acc) = k (sLu τ 4 (spFo (spHd g) m i acc)) := by
  have hw := hg.2.2.2.1
  intro m
  induction m with
  | zero =>
    intro i hi acc n hn
    obtain ⟨n', rfl⟩ : ∃ n', n = n' + 1 := ⟨n - 1, by omega⟩
    rw [f_X8_digest_L82, sG_L, h.1.2.2.2.1, if_pos (nI_le (by omega) (by omega)), spFo]
  | succ m ih =>
    intro i hi acc n hn
    obtain ⟨n', rfl⟩ : ∃ n', n = n' + 1 := ⟨n - 1, by omega⟩
    rw [f_X8_digest_L82, sG_L, h.1.2.2.2.1, if_neg (lit_nle (by omega) (by omega) (by omega)), if_pos (gd_nI (by omega) (by decide)), nI_clamp (by omega), sA_L, h.2.2.1 i (by omega), w_mix, Option.bind_some, nIa1, spFo]
    exact ih (i + 1) (by omega) _ n' (by omega)
theorem sim_digest {n : Nat} {σ τ : ss_M} (H : Cpl n σ τ) : simL n (f_X7_digest σ) (f_X8_digest τ) := by
  obtain ⟨g, hg, hc, hm⟩ := H.2.1
  obtain ⟨T, -, t2, t3, -⟩ := H.2.2.1
  obtain ⟨c1, c2⟩ := H.2.2.2.1
  have f1 : 12 < FU := FU_gt (by decide)
  have hw := hg.2.2.1
  have hh := hg.2.2.2.1
  obtain ⟨d1, hd1⟩ : ∃ d, d = spFo (fun i a => 31 * a + (spCo g T (nI i)).toInt64) 9 0 1063 := ⟨_, rfl⟩
  obtain ⟨d2, hd2⟩ : ∃ d, d = spFo (spWd g) g.1.2.2.1 0 d1 := ⟨_, rfl⟩
  obtain ⟨d3, hd3⟩ : ∃ d, d = spFo (spHd g) g.1.2.2.2.1 0 d2 := ⟨_, rfl⟩
  have a1 := v_d1 f_X7_digest_j31 hg hc t2 9 0 rfl 1063 FU (by omega)
  have a2 := v_d2 f_X7_digest_j107 hg hc _ 0 (Nat.zero_add _) d1 FU (by omega)
  have a3 := v_d3 f_X7_digest_j143 hg hc _ 0 (Nat.zero_add _) d2 FU (by omega)
  have b1 := w_d1 f_X8_digest_j31 hg hm t3 9 0 rfl 1063 FU (by omega)
  have b2 := w_d2 f_X8_digest_j80 hg hm _ 0 (Nat.zero_add _) d1 FU (by omega)
  have b3 := w_d3 f_X8_digest_j107 hg hm _ 0 (Nat.zero_add _) d2 FU (by omega)
  rw [← hd1] at a1 b1
  rw [← hd2] at a2 b2
  rw [← hd3] at a3 b3
  have a : f_X7_digest σ = some (31 * (31 * d3 + sL σ 0) + sL σ 1, σ) := a1.trans (a2.trans a3)
  have b : f_X8_digest τ = some (31 * (31 * d3 + sL τ 2) + sL τ 3, sLu τ 4 (31 * (31 * d3 + sL τ 2) + sL τ 3)) := by
    refine b1.trans (b2.trans (b3.trans ?_))
    unfold f_X8_digest_j107
    rw [w_mix, Option.bind_some, w_mix, Option.bind_some, sL_m, sL_n _ _ (by decide), sL_n _ _ (by decide)]
  rw [a, b, c1, c2]
  exact ⟨_, _, _, rfl, rfl, H.q (QC.rf H.1) QM_l⟩
