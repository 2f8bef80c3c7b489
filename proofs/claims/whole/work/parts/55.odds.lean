/-! odds, one piece -/
def smK (f : Nat → Nat) : Nat → Nat
  | 0 => 0
  | k + 1 => smK f k + f k
def adN (f : Nat → Nat) (i v : Nat) : Nat → Nat := fun j => if j = i then f j + v else f j
theorem sm_ad (f : Nat → Nat) (i v : Nat) : ∀ k, smK (adN f i v) k = smK f k + if i < k then v else 0 := by
  intro k
  induction k with
  | zero => rfl
  | succ k ih =>
    rw [smK, smK, ih]
    unfold adN
    by_cases e : k = i
    · rw [if_pos e, if_neg (by omega), if_pos (by omega)]; omega
    · rw [if_neg e]
      by_cases q : i < k
      · rw [if_pos q, if_pos (by omega)]; omega
      · rw [if_neg q, if_neg (by omega)]; omega
theorem sm_mono (f : Nat → Nat) {a b : Nat} (h : a ≤ b) : smK f a ≤ smK f b := by
  induction b with
  | zero => rw [show a = 0 by omega]; exact Nat.le_refl _
  | succ b ih =>
    by_cases e : a = b + 1
    · rw [e]; exact Nat.le_refl _
    · have := ih (by omega)
      rw [smK]
      omega
def rwN (R : Nat → Int64) (f : Nat → Nat) : Prop := ∀ c, c < 31 → R c = lN (f c)
theorem rwN_u {R : Nat → Int64} {f : Nat → Nat} {i v : Nat} (h : rwN R f) (hi : i < 31) : rwN (vp_updL R i (R i + lN v)) (adN f i v) := by
  intro c hc
  unfold adN
  by_cases e : c = i
  · rw [e, pk_uLs, if_pos rfl, h i hi, lN_add]
  · rw [pk_uLn e, if_neg e]
    exact h c hc
theorem sB_m (σ : ss_M) (c : Nat) (v : Nat → Int64) : sB (sBu σ c v) c = v := by rw [sB_B, if_pos rfl]
theorem sB_n (σ : ss_M) {c d : Nat} (v : Nat → Int64) (h : ¬ d = c) : sB (sBu σ c v) d = sB σ d := by rw [sB_B, if_neg h]
theorem sG_B' (σ : ss_M) (c : Nat) (v : Nat → Int64) (f o : Nat) : sG (sBu σ c v) f o = sG σ f o := rfl
theorem sA_B' (σ : ss_M) (c : Nat) (v : Nat → Int64) (f o : Nat) : sA (sBu σ c v) f o = sA σ f o := rfl
theorem QC_b {σ : ss_M} (h : LAY σ) {c : Nat} {v : Nat → Int64} : QC σ (sBu σ c v) := ⟨⟨h, fun p _ _ => pgE.rf p σ, ⟨rfl, rfl⟩, ⟨rfl, rfl⟩, ⟨rfl, rfl, rfl⟩, rfl⟩, pgE.rf 0 σ⟩
theorem QM_b {τ : ss_M} {c : Nat} {v : Nat → Int64} : QM τ (sBu τ c v) := QM.rf (τ := τ)
/-- class and reference in the midst of a piece: now is f, then is h -/
def iOd (g : pPg) (f h : Nat → Nat) (σ τ : ss_M) : Prop := LAY σ ∧ cPg σ 0 g ∧ mPg τ g ∧ (rwN (sB σ 0) f ∧ rwN (sB τ 2) f) ∧ rwN (sB σ 1) h ∧ rwN (sB τ 3) h
theorem iOd_u {n i v : Nat} {g : pPg} {f h : Nat → Nat} {σ τ : ss_M} (hg : gOk n g) (I : iOd g f h σ τ) (hi : i < 31) : iOd g f (adN h i v) (sBu σ 1 (vp_updL (sB σ 1) i (sB σ 1 i + lN v))) (sBu τ 3 (vp_updL (sB τ 3) i (sB τ 3 i + lN v))) := by
  obtain ⟨a, b, c, ⟨d, e⟩, u, w⟩ := I
  refine ⟨a, b.same a (by decide) hg (QC_b a).2, c.same QM_b.2, ⟨?_, ?_⟩, ?_, ?_⟩
  · rw [sB_n _ _ (by decide)]; exact d
  · rw [sB_n _ _ (by decide)]; exact e
  · rw [sB_m]; exact rwN_u u hi
  · rw [sB_m]; exact rwN_u w hi
/-- weights of a piece: marked or not -/
theorem od_L {n0 i p : Nat} {g : pPg} {f : Nat → Nat} (k1 : ss_M → Option ss_M) (k2 : ss_M → Option (Int32 × ss_M)) (hg : gOk n0 g) (hi : i < g.1.2.2.1) (hp : p ≤ 10) (mk : Bool) (a b : Nat) (hab : (a = if mk then p else 1) ∧ b = if mk then 10 - p else 0) : ∀ m c : Nat, g.1.1 + 1 ≤ c + m → g.2.1 i ≤ c → c ≤ 40 → ∀ (h : Nat → Nat) (σ τ : ss_M) (n1 n2 : Nat), iOd g f h σ τ → smK h 31 ≤ (a + b) * smK f c → (∀ x, g.1.1 < x → x < 31 → h x = 0) → m < n1 → m < n2 → ∃ h' σ' τ', f_X0_step_L16 0 (nI i) (nI a) (nI b) k1 n1 (nI c) σ = k1 σ' ∧ f_X8_odds_L113 (nI p) (nI i) (if mk then 1 else 0) k2 n2 (nI c) τ = k2 τ' ∧ iOd g f h' σ' τ' ∧ smK h' 31 ≤ (a + b) * smK f (max c (g.1.1 + 1)) ∧ (∀ x, g.1.1 < x → x < 31 → h' x = 0) ∧ QC σ σ' ∧ QM τ τ' := by
  have h12 := hg.2.2.1
  have hB := hg.1.2
  intro m
  have base : ∀ c, g.1.1 < c → c ≤ 40 → ∀ (h : Nat → Nat) (σ τ : ss_M) (n1 n2 : Nat), iOd g f h σ τ → smK h 31 ≤ (a + b) * smK f c → (∀ x, g.1.1 < x → x < 31 → h x = 0) → 0 < n1 → 0 < n2 → ∃ h' σ' τ', f_X0_step_L16 0 (nI i) (nI a) (nI b) k1 n1 (nI c) σ = k1 σ' ∧ f_X8_odds_L113 (nI p) (nI i) (if mk then 1 else 0) k2 n2 (nI c) τ = k2 τ' ∧ iOd g f h' σ' τ' ∧ smK h' 31 ≤ (a + b) * smK f (max c (g.1.1 + 1)) ∧ (∀ x, g.1.1 < x → x < 31 → h' x = 0) ∧ QC σ σ' ∧ QM τ τ' := by
    intro c hc h40 h σ τ n1 n2 I hs hz h1 h2
    obtain ⟨n1', rfl⟩ : ∃ n', n1 = n' + 1 := ⟨n1 - 1, by omega⟩
    obtain ⟨n2', rfl⟩ : ∃ n', n2 = n' + 1 := ⟨n2 - 1, by omega⟩
    refine ⟨h, σ, τ, ?_, ?_, I, by rw [Nat.max_eq_left (by omega)]; exact hs, hz, QC.rf I.1, QM.rf⟩
    · rw [f_X0_step_L16, I.2.1.1.1, if_pos (nI_lt (by omega) (by omega))]
    · rw [f_X8_odds_L113, I.2.2.1.1.1, if_pos (nI_lt (by omega) (by omega))]
  induction m with
  | zero =>
    intro c hc hl h40 h σ τ n1 n2 I hs hz h1 h2
    exact base c (by omega) h40 h σ τ n1 n2 I hs hz h1 h2
  | succ m ih =>
    intro c hc hl h40 h σ τ n1 n2 I hs hz h1 h2
    by_cases hcB : g.1.1 < c
    · exact base c hcB h40 h σ τ n1 n2 I hs hz (by omega) (by omega)
    · obtain ⟨n1', rfl⟩ : ∃ n', n1 = n' + 1 := ⟨n1 - 1, by omega⟩
      obtain ⟨n2', rfl⟩ : ∃ n', n2 = n' + 1 := ⟨n2 - 1, by omega⟩
      have nB : ¬ nI g.1.1 < nI c := nI_nlt (by omega) (by omega)
      have e12 : gd (nI i) 12 = true := gd_nI (by omega) (by decide)
      have ei : (nI i).toNatClampNeg = i := nI_clamp (by omega)
      have ec : (nI c).toNatClampNeg = c := nI_clamp (by omega)
      have e31 : gd (nI c) 31 = true := gd_nI (by omega) (by decide)
      obtain ⟨G, hG⟩ : ∃ G, G = spGive (g.2.2.2.1.2.2.1 i) (c - g.2.1 i) g.1.1 := ⟨_, rfl⟩
      have hGl : G ≤ g.1.1 := by rw [hG]; exact spGive_le (by omega)
      have eG : gd (nI G) 31 = true := gd_nI (by omega) (by decide)
      have eGc : (nI G).toNatClampNeg = G := nI_clamp (by omega)
      have eD : gd (nI (c - g.2.1 i)) 31 = true := gd_nI (by omega) (by decide)
      have eDc : (nI (c - g.2.1 i)).toNatClampNeg = c - g.2.1 i := nI_clamp (by omega)
      have ha : a ≤ 10 := by rw [hab.1]; split <;> omega
      have hb : b ≤ 10 := by rw [hab.2]; split <;> omega
      have I1 := iOd_u (v := f c * a) hg I (show c - g.2.1 i < 31 by omega)
      have I2 := iOd_u (v := f c * b) hg I1 (show G < 31 by omega)
      have s1 : smK (adN (adN h (c - g.2.1 i) (f c * a)) G (f c * b)) 31 ≤ (a + b) * smK f (c + 1) := by
        have e : smK f (c + 1) = smK f c + f c := rfl
        rw [sm_ad, sm_ad, if_pos (by omega), if_pos (by omega), e, Nat.mul_add, Nat.add_mul a b (f c), Nat.mul_comm (f c) a, Nat.mul_comm (f c) b]
        omega
      have z1 : ∀ x, g.1.1 < x → x < 31 → adN (adN h (c - g.2.1 i) (f c * a)) G (f c * b) x = 0 := fun x x1 x2 => by
        unfold adN
        rw [if_neg (by omega), if_neg (by omega)]
        exact hz x x1 x2
      obtain ⟨h', σ', τ', d1, d2, d3, d4, d5, d6, d7⟩ := ih (c + 1) (by omega) (by omega) (by omega) _ _ _ n1' n2' I2 s1 z1 (by omega) (by omega)
      have hm1 : max (c + 1) (g.1.1 + 1) = max c (g.1.1 + 1) := by omega
      rw [hm1] at d4
      refine ⟨h', σ', τ', ?_, ?_, d3, d4, d5, (show QC σ σ' from d6), (show QM τ τ' from d7)⟩
      · rw [f_X0_step_L16, I.2.1.1.1, if_neg nB, if_pos e12, if_pos e12, ei, I.2.1.2.2.2.1.2.2.1 i hi, I.2.1.2.1 i hi, nIs hl, v_give (by omega) (by omega), ss_bd_e, ← hG, if_pos eD, if_pos e31, if_pos eD, ss_let, if_pos eG, if_pos e31, if_pos eG, eDc, ec, eGc, nI_l (by omega), nI_l (by omega), nIa1, sB_n _ _ (show ¬ 0 = 1 by decide), I.2.2.2.1.1 c (by omega), lN_mul, lN_mul]
        exact d1
      · have kd : kOk (g.2.2.2.1.2.2.1 i) := hg.2.2.2.2.2.2.1.2.2 i hi
        have m2 : sB τ 2 c = lN (f c) := I.2.2.2.1.2 c (by omega)
        have q2 : ∀ (Z : ss_M) (v : Nat → Int64), sB (sBu Z 3 v) 2 = sB Z 2 := fun Z v => sB_n _ _ (by decide)
        rw [f_X8_odds_L113, I.2.2.1.1.1, if_neg nB, if_pos e12, if_pos e12, ei, I.2.2.1.2.2.2.1.2.2.1 i hi, I.2.2.1.2.1 i hi, nIs hl, w_give kd (by omega) (by omega), ss_bd_e, ← hG, if_pos eD, if_pos e31, if_pos e31, ec, m2]
        cases mk
        · rw [if_neg (show ¬ false = true by decide), if_pos rfl]
          have a1 : a = 1 := by rw [hab.1]; rfl
          have b0 : b = 0 := by rw [hab.2]; rfl
          rw [a1, b0, Nat.mul_one, Nat.mul_zero] at d2
          unfold f_X8_odds_j185 f_X8_odds_j217
          rw [ei, I.2.2.1.2.1 i hi, nIs hl, if_pos eD, ss_let, if_pos eG, if_pos rfl, if_pos eG, eDc, eGc, nIa1, show (0 : Int64) = lN 0 from rfl]
          exact d2
        · rw [if_pos rfl, if_neg n10]
          have a1 : a = p := by rw [hab.1]; rfl
          have b0 : b = 10 - p := by rw [hab.2]; rfl
          rw [a1, b0] at d2
          unfold f_X8_odds_j185 f_X8_odds_j217
          rw [ei, I.2.2.1.2.1 i hi, nIs hl, if_pos eD, ss_let, if_pos eG, if_neg n10, if_pos e31, if_pos eG, eDc, eGc, ec, nIa1, q2, m2, show (10 : Int32) = nI 10 from rfl, nIs (show p ≤ 10 from hp), nI_l (show p < 2 ^ 31 by omega), nI_l (show 10 - p < 2 ^ 31 by omega), lN_mul, lN_mul]
          exact d2
