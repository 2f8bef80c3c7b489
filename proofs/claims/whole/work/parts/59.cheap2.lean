/-! cheapest: the class's rows -/
def opP (e : Bool) (c : Prop) [Decidable c] : Int32 := if e = true ∧ c then 1 else 0
theorem v_chL {n0 m i h b : Nat} {e : Bool} {g : pPg} {σ : ss_M} (T : Nat → Nat) (hn : n0 ≤ 1000) (hg : gOk n0 g) (hL : LAY σ) (hc : cPg σ 0 g) (hi : i < g.1.2.2.1) (hm : m ≤ 11) (hb : b ≤ 30) (hhb : h ≤ b) (hl : g.2.1 i ≤ h) (hT : ∀ x, x ≤ b → relC m (T x) (sA σ 6 (i + 1) x) (sA σ 7 (i + 1) x)) : ∀ mm j : Nat, j + mm = chN g i → ∀ (a1 a2 a3 : Nat → Int32) (n : Nat), mm < n → relC (m + 1) (rnM (chO g b e T i h) j).1 (a1 h) (a2 h) → ((rnM (chO g b e T i h) j).1 < 1048576 → a3 h = ox (rnM (chO g b e T i h) j).2) → ∃ a1' a2' a3', f_X5_choose_L27 0 (nI i) (nI h) (nI b) (if e = true ∧ i + 1 = g.1.2.2.1 then 1 else 0) (g.2.2.2.1.2.2.1 i) (if g.2.2.2.1.2.2.1 i = -1 then 5 else -1) n (ox j) (cs σ i a1 a2 a3) = some (cs σ i a1' a2' a3') ∧ relC (m + 1) (rnM (chO g b e T i h) (chN g i)).1 (a1' h) (a2' h) ∧ ((rnM (chO g b e T i h) (chN g i)).1 < 1048576 → a3' h = ox (rnM (chO g b e T i h) (chN g i)).2) ∧ ∀ x, x ≠ h → a1' x = a1 x ∧ a2' x = a2 x ∧ a3' x = a3 x := by
  intro mm
  induction mm with
  | zero =>
    intro j hj a1 a2 a3 n hn' h1 h2
    obtain ⟨n', rfl⟩ : ∃ n', n = n' + 1 := ⟨n - 1, by omega⟩
    have hjN : j = chN g i := by omega
    refine ⟨a1, a2, a3, ?_, hjN ▸ h1, hjN ▸ h2, fun x _ => ⟨rfl, rfl, rfl⟩⟩
    rw [f_X5_choose_L27, if_pos]
    rw [hjN]
    unfold chN
    by_cases z : g.2.2.2.1.2.2.1 i = -1
    · rw [if_pos z, if_pos z]; decide
    · rw [if_neg z, if_neg z]; decide
  | succ mm ih =>
    intro j hj a1 a2 a3 n hn' h1 h2
    obtain ⟨n', rfl⟩ : ∃ n', n = n' + 1 := ⟨n - 1, by omega⟩
    have hN := chN_7 g i
    have b1 : ¬ (if g.2.2.2.1.2.2.1 i = -1 then (5 : Int32) else -1) < ox j := by
      by_cases z : g.2.2.2.1.2.2.1 i = -1
      · rw [if_pos z]
        cases j with
        | zero => decide
        | succ j => rw [ox_s]; exact nI_nlt (b := j) (a := 5) (by omega) (by decide)
      · have : j = 0 := by
          unfold chN at hj
          rw [if_neg z] at hj
          omega
        rw [if_neg z, this]; decide
    have step : ∀ (kb : Int32 → ss_M → Option ss_M), (if ox j = -1 then f_X5_choose_j47 0 (nI i) (nI h) (nI b) (if e = true ∧ i + 1 = g.1.2.2.1 then 1 else 0) (ox j) kb (g.2.2.2.1.2.2.1 i) (cs σ i a1 a2 a3) else f_X5_choose_j47 0 (nI i) (nI h) (nI b) (if e = true ∧ i + 1 = g.1.2.2.1 then 1 else 0) (ox j) kb (ox j) (cs σ i a1 a2 a3)) = f_X5_choose_j47 0 (nI i) (nI h) (nI b) (if e = true ∧ i + 1 = g.1.2.2.1 then 1 else 0) (ox j) kb (chK g i j) (cs σ i a1 a2 a3) := by
      intro kb
      unfold chK
      by_cases z : g.2.2.2.1.2.2.1 i = -1
      · rw [if_pos z, z]
        split
        · next q => rw [q]
        · rfl
      · have : j = 0 := by
          unfold chN at hj
          rw [if_neg z] at hj
          omega
        rw [if_neg z, if_pos (by rw [this]; rfl)]
    rw [f_X5_choose_L27, if_neg b1, step]
    obtain ⟨c1, c2, c3, d1, d2, d3, d4⟩ := v_ch47 (e := e) T (f_X5_choose_L27 0 (nI i) (nI h) (nI b) (if e = true ∧ i + 1 = g.1.2.2.1 then 1 else 0) (g.2.2.2.1.2.2.1 i) (if g.2.2.2.1.2.2.1 i = -1 then 5 else -1) n') hn hg hL hc hi hm hb hhb hl (j := j) (by omega) rfl hT a1 a2 a3 h1
    have e1 : (rnM (chO g b e T i h) (j + 1)).1 = if chO g b e T i h j < (rnM (chO g b e T i h) j).1 then chO g b e T i h j else (rnM (chO g b e T i h) j).1 := by
      rw [rnM_s]
      split <;> rfl
    obtain ⟨a1', a2', a3', k1, k2, k3, k4⟩ := ih (j + 1) (by omega) c1 c2 c3 n' (by omega) (by rw [e1]; exact d2) (by
      intro q
      rw [d3, rnM_s]
      by_cases z : chO g b e T i h j < (rnM (chO g b e T i h) j).1
      · rw [if_pos z, if_pos z]
      · rw [if_neg z, if_neg z]
        rw [e1, if_neg z] at q
        exact h2 q)
    refine ⟨a1', a2', a3', d1.trans k1, k2, k3, fun x hx => ?_⟩
    obtain ⟨y1, y2, y3⟩ := k4 x hx
    obtain ⟨z1, z2, z3⟩ := d4 x hx
    exact ⟨y1.trans z1, y2.trans z2, y3.trans z3⟩
theorem v_choose {n0 m i h b : Nat} {e : Bool} {g : pPg} {σ : ss_M} (T : Nat → Nat) (hn : n0 ≤ 1000) (hg : gOk n0 g) (hL : LAY σ) (hc : cPg σ 0 g) (hi : i < g.1.2.2.1) (hm : m ≤ 11) (hb : b ≤ 30) (hhb : h ≤ b) (hl : g.2.1 i ≤ h) (hT : ∀ x, x ≤ b → relC m (T x) (sA σ 6 (i + 1) x) (sA σ 7 (i + 1) x)) (a1 a2 a3 : Nat → Int32) (h1 : a1 h = nI 1000000) : ∃ a1' a2' a3', f_X5_choose 0 (nI i) (nI h) (nI b) (if e = true ∧ i + 1 = g.1.2.2.1 then 1 else 0) (cs σ i a1 a2 a3) = some (cs σ i a1' a2' a3') ∧ relC (m + 1) (rnM (chO g b e T i h) (chN g i)).1 (a1' h) (a2' h) ∧ ((rnM (chO g b e T i h) (chN g i)).1 < 1048576 → a3' h = ox (rnM (chO g b e T i h) (chN g i)).2) ∧ ∀ x, x ≠ h → a1' x = a1 x ∧ a2' x = a2 x ∧ a3' x = a3 x := by
  have h12 := hg.2.2.1
  have hN := chN_7 g i
  have hc1 : cPg (cs σ i a1 a2 a3) 0 g := hc.same hL (by decide) hg (cs_q hL).2
  obtain ⟨a1', a2', a3', k1, k2⟩ := v_chL (e := e) T hn hg hL hc hi hm hb hhb hl hT (chN g i) 0 (by omega) a1 a2 a3 FU (FU_gt (by omega)) (Or.inl ⟨rfl, h1⟩) (fun q => absurd q (Nat.lt_irrefl _))
  refine ⟨a1', a2', a3', ?_, k2⟩
  unfold f_X5_choose f_X5_choose_j22
  rw [if_pos (gd_nI (show i < 12 by omega) (by decide)), nI_clamp (show i < 2 ^ 31 by omega), hc1.2.2.2.1.2.2.1 i hi]
  by_cases z : g.2.2.2.1.2.2.1 i = -1
  · rw [if_pos z] at k1 ⊢
    exact k1
  · rw [if_neg z] at k1 ⊢
    exact k1
theorem v_ch91 {n0 m i b : Nat} {e : Bool} {g : pPg} {σ : ss_M} (T : Nat → Nat) (k : ss_M → Option ss_M) (hn : n0 ≤ 1000) (hg : gOk n0 g) (hL : LAY σ) (hc : cPg σ 0 g) (hi : i < g.1.2.2.1) (hm : m ≤ 11) (hb : b ≤ 30) (hT : ∀ x, x ≤ b → relC m (T x) (sA σ 6 (i + 1) x) (sA σ 7 (i + 1) x)) : ∀ mm h : Nat, b + 1 ≤ h + mm → g.2.1 i ≤ h → h ≤ 40 → ∀ (a1 a2 a3 : Nat → Int32) (n : Nat), mm < n → (∀ x, x ≤ b → h ≤ x → a1 x = nI 1000000) → (∀ x, x ≤ b → x < h → relC (m + 1) (rnM (chO g b e T i x) (chN g i)).1 (a1 x) (a2 x) ∧ ((rnM (chO g b e T i x) (chN g i)).1 < 1048576 → a3 x = ox (rnM (chO g b e T i x) (chN g i)).2)) → ∃ a1' a2' a3', f_X5_make_L91 0 (nI b) (nI i) (if e = true ∧ i + 1 = g.1.2.2.1 then 1 else 0) k n (nI h) (cs σ i a1 a2 a3) = k (cs σ i a1' a2' a3') ∧ ∀ x, x ≤ b → relC (m + 1) (rnM (chO g b e T i x) (chN g i)).1 (a1' x) (a2' x) ∧ ((rnM (chO g b e T i x) (chN g i)).1 < 1048576 → a3' x = ox (rnM (chO g b e T i x) (chN g i)).2) := by
  intro mm
  induction mm with
  | zero =>
    intro h hh hl h40 a1 a2 a3 n hn' h1 h2
    obtain ⟨n', rfl⟩ : ∃ n', n = n' + 1 := ⟨n - 1, by omega⟩
    refine ⟨a1, a2, a3, ?_, fun x hx => h2 x hx (by omega)⟩
    rw [f_X5_make_L91, if_pos (nI_lt (by omega) (by omega))]
  | succ mm ih =>
    intro h hh hl h40 a1 a2 a3 n hn' h1 h2
    obtain ⟨n', rfl⟩ : ∃ n', n = n' + 1 := ⟨n - 1, by omega⟩
    by_cases hhb : h ≤ b
    · obtain ⟨c1, c2, c3, d1, d2, d3, d4⟩ := v_choose (e := e) T hn hg hL hc hi hm hb hhb hl hT a1 a2 a3 (h1 h hhb (Nat.le_refl _))
      obtain ⟨a1', a2', a3', k1, k2⟩ := ih (h + 1) (by omega) (by omega) (by omega) c1 c2 c3 n' (by omega) (fun x hx hy => by rw [(d4 x (by omega)).1]; exact h1 x hx (by omega)) (fun x hx hy => by
        by_cases q : x = h
        · rw [q]; exact ⟨d2, d3⟩
        · obtain ⟨y1, y2, y3⟩ := d4 x q
          rw [y1, y2, y3]
          exact h2 x hx (by omega))
      refine ⟨a1', a2', a3', ?_, k2⟩
      rw [f_X5_make_L91, if_neg (nI_nlt hhb (by omega)), d1, Option.bind_some, nIa1]
      exact k1
    · refine ⟨a1, a2, a3, ?_, fun x hx => h2 x hx (by omega)⟩
      rw [f_X5_make_L91, if_pos (nI_lt (by omega) (by omega))]
theorem chO_short {g : pPg} {b i h : Nat} {e : Bool} {T : Nat → Nat} (hh : h < g.2.1 i) : ∀ n, rnM (chO g b e T i h) n = (1048576, 0)
  | 0 => rfl
  | n + 1 => by
    rw [rnM_s, chO_short hh n]
    have : chO g b e T i h n = 1048576 := by unfold chO; rw [if_pos hh]
    rw [this]
    rfl
/-- a piece's rows -/
theorem v_ch57 {n0 m i b : Nat} {e : Bool} {g : pPg} {σ : ss_M} (T : Nat → Nat) (x4 : Int32) (kb : Int32 → Int32 → ss_M → Option ss_M) (hn : n0 ≤ 1000) (hg : gOk n0 g) (hL : LAY σ) (hc : cPg σ 0 g) (hi : i < g.1.2.2.1) (hm : m ≤ 11) (hb : b ≤ 30) (hT : ∀ x, x ≤ b → relC m (T x) (sA σ 6 (i + 1) x) (sA σ 7 (i + 1) x)) : ∃ a1' a2' a3', f_X5_make_j57 0 (nI b) x4 (nI i) kb (if e = true ∧ i + 1 = g.1.2.2.1 then 1 else 0) σ = kb x4 (nI i + -1) (cs σ i a1' a2' a3') ∧ ∀ x, x ≤ b → relC (m + 1) (rnM (chO g b e T i x) (chN g i)).1 (a1' x) (a2' x) ∧ ((rnM (chO g b e T i x) (chN g i)).1 < 1048576 → a3' x = ox (rnM (chO g b e T i x) (chN g i)).2) := by
  have h12 := hg.2.2.1
  have l9 := (hg.2.2.2.2.2.1 i hi).2
  obtain ⟨A1, hA1⟩ : ∃ A1, A1 = fll (sA σ 6 i) (nI 1000000) 31 := ⟨_, rfl⟩
  obtain ⟨A3, hA3⟩ : ∃ A3, A3 = fll (sA σ 8 i) (-1) 31 := ⟨_, rfl⟩
  obtain ⟨A2, hA2⟩ : ∃ A2, A2 = sA σ 7 i := ⟨_, rfl⟩
  have e0 : sAu (sAu σ 6 i A1) 8 i A3 = cs σ i A1 A2 A3 := by
    unfold cs
    rw [hA2]
    have : sA σ 7 i = sA (sAu σ 6 i A1) 7 i := by rw [sA_n _ _ (by omega)]
    rw [this, ex_sA]
  have hc1 : cPg (cs σ i A1 A2 A3) 0 g := hc.same hL (by decide) hg (cs_q hL).2
  have big : ∀ x, x ≤ b → A1 x = nI 1000000 := fun x hx => by rw [hA1]; unfold fll; rw [if_pos (by omega)]
  obtain ⟨a1', a2', a3', k1, k2⟩ := v_ch91 (e := e) T (f_X5_make_j115 x4 (nI i) kb) hn hg hL hc hi hm hb hT 31 (g.2.1 i) (by omega) (Nat.le_refl _) (by omega) A1 A2 A3 FU (FU_gt (by decide)) (fun x hx _ => big x hx) (fun x hx hy => by
    rw [chO_short hy]
    exact ⟨Or.inl ⟨rfl, big x hx⟩, fun q => absurd q (by decide)⟩)
  refine ⟨a1', a2', a3', ?_, k2⟩
  unfold f_X5_make_j57
  rw [if_pos (gd_nI (show i < 13 by omega) (by decide)), nI_clamp (show i < 2 ^ 31 by omega), v_fill 6 i _ σ (by decide), Option.bind_some, if_pos (gd_nI (show i < 12 by omega) (by decide)), v_fill 8 i _ _ (by decide), Option.bind_some, if_pos (gd_nI (show i < 12 by omega) (by decide))]
  have s8 : sA (sAu σ 6 i A1) 8 i = sA σ 8 i := sA_n _ _ (by omega)
  rw [show (1000000 : Int32) = nI 1000000 from rfl, show alen 6 = 31 from rfl, show alen 8 = 31 from rfl, ← hA1, s8, ← hA3, e0, hc1.2.1 i hi]
  exact k1
/-- the rows from a piece on -/
def rwC (g : pPg) (b : Nat) (e : Bool) (m : Nat) (σ : ss_M) : Prop := (∀ k, k ≤ m → ∀ x, x ≤ b → relC k (chV g b e k x) (sA σ 6 (g.1.2.2.1 - k) x) (sA σ 7 (g.1.2.2.1 - k) x)) ∧ ∀ k, k < m → ∀ x, x ≤ b → chV g b e (k + 1) x < 1048576 → sA σ 8 (g.1.2.2.1 - (k + 1)) x = ox (chC g b e k x)
theorem v_ch34 {n0 b : Nat} {e : Bool} {g : pPg} (hn : n0 ≤ 1000) (hg : gOk n0 g) (hb : b ≤ 30) : ∀ r m : Nat, m + r = g.1.2.2.1 → ∀ (σ : ss_M) (n : Nat), r < n → LAY σ → cPg σ 0 g → rwC g b e m σ → ∃ σ', f_X5_make_L34 0 (nI b) (if e = true then 1 else 0) n (nI g.1.2.2.1) (nI (g.1.2.2.1 - m) - 1) σ = some σ' ∧ QC σ σ' ∧ rwC g b e g.1.2.2.1 σ' := by
  have h12 := hg.2.2.1
  intro r
  induction r with
  | zero =>
    intro m hm σ n hn' hL hc I
    obtain ⟨n', rfl⟩ : ∃ n', n = n' + 1 := ⟨n - 1, by omega⟩
    have hmw : m = g.1.2.2.1 := by omega
    refine ⟨σ, ?_, QC.rf hL, hmw ▸ I⟩
    rw [f_X5_make_L34, if_pos (by rw [hmw, Nat.sub_self]; decide)]
  | succ r ih =>
    intro m hm σ n hn' hL hc I
    obtain ⟨n', rfl⟩ : ∃ n', n = n' + 1 := ⟨n - 1, by omega⟩
    have ei : nI (g.1.2.2.1 - m) - 1 = nI (g.1.2.2.1 - (m + 1)) := nIs (b := 1) (by omega)
    obtain ⟨i, hi⟩ : ∃ i, i = g.1.2.2.1 - (m + 1) := ⟨_, rfl⟩
    have hiw : i < g.1.2.2.1 := by omega
    have i1 : g.1.2.2.1 - m = i + 1 := by omega
    obtain ⟨a1, a2, a3, k1, k2⟩ := v_ch57 (e := e) (chV g b e m) (nI g.1.2.2.1) (f_X5_make_L34 0 (nI b) (if e = true then 1 else 0) n') hn hg hL hc hiw (m := m) (by omega) hb (fun x hx => by rw [← i1]; exact I.1 m (Nat.le_refl _) x hx)
    have I' : rwC g b e (m + 1) (cs σ i a1 a2 a3) := by
      refine ⟨fun k hk x hx => ?_, fun k hk x hx q => ?_⟩
      · by_cases z : k = m + 1
        · rw [z, ← hi, cs_6, cs_7]
          have := (k2 x hx).1
          rw [hi] at this
          exact this
        · rw [cs_n _ _ _ _ _ (Or.inr (by omega)), cs_n _ _ _ _ _ (Or.inr (by omega))]
          exact I.1 k (by omega) x hx
      · by_cases z : k = m
        · subst z
          rw [← hi, cs_8]
          have h2 := (k2 x hx).2
          rw [hi] at h2
          exact h2 q
        · rw [cs_n _ _ _ _ _ (Or.inr (by omega))]
          exact I.2 k (by omega) x hx q
    obtain ⟨σ', d1, d2, d3⟩ := ih (m + 1) (by omega) (cs σ i a1 a2 a3) n' (by omega) hL (hc.same hL (by decide) hg (cs_q hL).2) I'
    refine ⟨σ', ?_, (cs_q hL).tr d2, d3⟩
    have em : nI i + -1 = nI i - 1 := by rw [Int32.sub_eq_add_neg]
    rw [em] at k1
    rw [← hi] at d1
    rw [f_X5_make_L34, ei, ← hi, if_neg (nI_pos (by omega))]
    cases e with
    | false =>
      rw [if_pos (show (if false = true then (1 : Int32) else 0) = 0 by decide)]
      unfold f_X5_make_j56
      rw [if_neg (show ¬ (false = true ∧ i + 1 = g.1.2.2.1) from fun z => absurd z.1 (by decide))] at k1
      exact k1.trans d1
    | true =>
      rw [if_neg (show ¬ (if true = true then (1 : Int32) else 0) = 0 by decide)]
      have el : nI g.1.2.2.1 - 1 = nI (g.1.2.2.1 - 1) := nIs (b := 1) (by omega)
      rw [el]
      by_cases z : i + 1 = g.1.2.2.1
      · rw [if_pos (show true = true ∧ i + 1 = g.1.2.2.1 from ⟨rfl, z⟩)] at k1
        rw [if_pos (show nI i = nI (g.1.2.2.1 - 1) by rw [← z]; rfl)]
        exact k1.trans d1
      · rw [if_neg (show ¬ (true = true ∧ i + 1 = g.1.2.2.1) from fun y => z y.2)] at k1
        rw [if_neg (show ¬ nI i = nI (g.1.2.2.1 - 1) from fun y => z (by have := (nI_eq (by omega) (by omega)).mp y; omega))]
        unfold f_X5_make_j56
        exact k1.trans d1
theorem v_make {n0 b : Nat} {e : Bool} {g : pPg} {σ : ss_M} (hn : n0 ≤ 1000) (hg : gOk n0 g) (hb : b ≤ 30) (hL : LAY σ) (hc : cPg σ 0 g) : ∃ σ', f_X5_make 0 (nI b) (if e = true then 1 else 0) σ = some σ' ∧ QC σ σ' ∧ rwC g b e g.1.2.2.1 σ' := by
  have h12 := hg.2.2.1
  have w13 : gd (nI g.1.2.2.1) 13 = true := gd_nI (by omega) (by decide)
  obtain ⟨σ1, hσ1⟩ : ∃ σ1, σ1 = sAu (sAu σ 6 g.1.2.2.1 (fll (sA σ 6 g.1.2.2.1) 0 31)) 7 g.1.2.2.1 (fll (sA (sAu σ 6 g.1.2.2.1 (fll (sA σ 6 g.1.2.2.1) 0 31)) 7 g.1.2.2.1) 0 31) := ⟨_, rfl⟩
  have qc : QC σ σ1 := by
    rw [hσ1]
    exact (QC_a hL (by omega)).tr (QC_a (LAY_a hL) (by omega))
  have I : rwC g b e 0 σ1 := by
    refine ⟨fun k hk x hx => ?_, fun k hk => by omega⟩
    have : k = 0 := by omega
    subst this
    refine Or.inr ⟨0, 0, rfl, by omega, by omega, ?_, ?_⟩
    · rw [hσ1, Nat.sub_zero, sA_n _ _ (by omega), sA_m]
      unfold fll
      rw [if_pos (by omega)]
      rfl
    · rw [hσ1, Nat.sub_zero, sA_m]
      unfold fll
      rw [if_pos (by omega)]
      rfl
  obtain ⟨σ', d1, d2, d3⟩ := v_ch34 hn hg hb g.1.2.2.1 0 (Nat.zero_add _) σ1 FU (FU_gt (by omega)) qc.1.1 (hc.same hL (by decide) hg qc.2) I
  refine ⟨σ', ?_, qc.tr d2, d3⟩
  unfold f_X5_make
  rw [hc.1.2.2.1, if_pos w13, nI_clamp (show g.1.2.2.1 < 2 ^ 31 by omega), v_fill 6 _ _ σ (by decide), Option.bind_some, if_pos w13, v_fill 7 _ _ _ (by decide), Option.bind_some, show alen 6 = 31 from rfl, show alen 7 = 31 from rfl, ← hσ1]
  rw [Nat.sub_zero] at d1
  exact d1
/-- the way through the rows -/
def pth (g : pPg) (b : Nat) (e : Bool) : Nat → Nat
  | 0 => b
  | i + 1 => spGive (chK g i (chC g b e (g.1.2.2.1 - (i + 1)) (pth g b e i))) (pth g b e i - g.2.1 i) b
theorem chV_s {g : pPg} {b i : Nat} {e : Bool} (hi : i < g.1.2.2.1) (h : Nat) : chV g b e (g.1.2.2.1 - i) h = (rnM (chO g b e (chV g b e (g.1.2.2.1 - (i + 1))) i h) (chN g i)).1 ∧ chC g b e (g.1.2.2.1 - (i + 1)) h = (rnM (chO g b e (chV g b e (g.1.2.2.1 - (i + 1))) i h) (chN g i)).2 := by
  have e1 : g.1.2.2.1 - i = (g.1.2.2.1 - (i + 1)) + 1 := by omega
  have e2 : g.1.2.2.1 - ((g.1.2.2.1 - (i + 1)) + 1) = i := by omega
  constructor
  · rw [e1]
    show (rnM (chO g b e (chV g b e (g.1.2.2.1 - (i + 1))) (g.1.2.2.1 - ((g.1.2.2.1 - (i + 1)) + 1)) h) (chN g (g.1.2.2.1 - ((g.1.2.2.1 - (i + 1)) + 1)))).1 = _
    rw [e2]
  · unfold chC
    rw [e2]
theorem pth_ok {n0 b : Nat} {e : Bool} {g : pPg} (hg : gOk n0 g) (hf : chV g b e g.1.2.2.1 b < 1048576) : ∀ i, i ≤ g.1.2.2.1 → pth g b e i ≤ b ∧ chV g b e (g.1.2.2.1 - i) (pth g b e i) < 1048576 ∧ (i < g.1.2.2.1 → g.2.1 i ≤ pth g b e i ∧ chC g b e (g.1.2.2.1 - (i + 1)) (pth g b e i) < chN g i) := by
  have nxt : ∀ i, i < g.1.2.2.1 → chV g b e (g.1.2.2.1 - i) (pth g b e i) < 1048576 → g.2.1 i ≤ pth g b e i ∧ chC g b e (g.1.2.2.1 - (i + 1)) (pth g b e i) < chN g i ∧ chV g b e (g.1.2.2.1 - (i + 1)) (pth g b e (i + 1)) < 1048576 := by
    intro i hi h
    obtain ⟨s1, s2⟩ := chV_s (b := b) (e := e) hi (pth g b e i)
    rw [s1] at h
    obtain ⟨r1, r2, r3⟩ := rnM_at _ _ h
    rw [← s2] at r1 r2
    rw [← r2] at h
    have hl : g.2.1 i ≤ pth g b e i := by
      apply Nat.le_of_not_lt
      intro z
      unfold chO at h
      rw [if_pos z] at h
      exact absurd h (Nat.lt_irrefl _)
    refine ⟨hl, r1, ?_⟩
    show chT g b (chV g b e (g.1.2.2.1 - (i + 1))) i (pth g b e i) (chC g b e (g.1.2.2.1 - (i + 1)) (pth g b e i)) < 1048576
    unfold chO at h
    rw [if_neg (by omega)] at h
    split at h
    · exact absurd h (Nat.lt_irrefl _)
    · split at h
      · exact h
      · omega
  intro i
  induction i with
  | zero => intro _; exact ⟨Nat.le_refl _, hf, fun hi => ⟨(nxt 0 hi hf).1, (nxt 0 hi hf).2.1⟩⟩
  | succ i ih =>
    intro hi
    obtain ⟨a1, a2, a3⟩ := ih (by omega)
    obtain ⟨b1, b2, b3⟩ := nxt i (by omega) a2
    refine ⟨?_, b3, fun q => ⟨(nxt _ q b3).1, (nxt _ q b3).2.1⟩⟩
    show spGive _ _ b ≤ b
    exact spGive_le (by omega)
theorem v_kb {n0 b q : Nat} {e : Bool} {g : pPg} {σ : ss_M} (k : Int32 → ss_M → Option (Int32 × ss_M)) (hg : gOk n0 g) (hb : b ≤ 30) (hc : cPg σ 0 g) (hq : q < g.1.2.2.1) (hf : chV g b e g.1.2.2.1 b < 1048576) (I : rwC g b e g.1.2.2.1 σ) : ∀ m i : Nat, i + m = q → ∀ n, m < n → f_X5_kindBehind_L6 0 (nI b) (nI q) k n (nI (pth g b e i)) (nI i) σ = k (nI (pth g b e q)) σ := by
  have h12 := hg.2.2.1
  intro m
  induction m with
  | zero =>
    intro i hi n hn
    obtain ⟨n', rfl⟩ : ∃ n', n = n' + 1 := ⟨n - 1, by omega⟩
    have : i = q := by omega
    subst this
    rw [f_X5_kindBehind_L6, if_pos (nI_le (Nat.le_refl _) (by omega))]
  | succ m ih =>
    intro i hi n hn
    obtain ⟨n', rfl⟩ : ∃ n', n = n' + 1 := ⟨n - 1, by omega⟩
    have hiw : i < g.1.2.2.1 := by omega
    obtain ⟨p1, p2, p3⟩ := pth_ok hg hf i (by omega)
    obtain ⟨p4, p5⟩ := p3 hiw
    have e12 : gd (nI i) 12 = true := gd_nI (by omega) (by decide)
    have e31 : gd (nI (pth g b e i)) 31 = true := gd_nI (by omega) (by decide)
    have hkd : (if g.2.2.2.1.2.2.1 i = -1 then sA σ 8 i (pth g b e i) else g.2.2.2.1.2.2.1 i) = chK g i (chC g b e (g.1.2.2.1 - (i + 1)) (pth g b e i)) := by
      unfold chK
      split
      · have := I.2 (g.1.2.2.1 - (i + 1)) (by omega) (pth g b e i) p1 (by
          have : g.1.2.2.1 - (i + 1) + 1 = g.1.2.2.1 - i := by omega
          rw [this]
          exact p2)
        have e2 : g.1.2.2.1 - (g.1.2.2.1 - (i + 1) + 1) = i := by omega
        rw [e2] at this
        exact this
      · rfl
    have j45 : ∀ kd, kd = chK g i (chC g b e (g.1.2.2.1 - (i + 1)) (pth g b e i)) → f_X5_kindBehind_j45 0 (nI b) (nI (pth g b e i)) (nI i) (f_X5_kindBehind_L6 0 (nI b) (nI q) k n') kd σ = k (nI (pth g b e q)) σ := by
      intro kd hk
      unfold f_X5_kindBehind_j45
      rw [if_pos e12, nI_clamp (show i < 2 ^ 31 by omega), hc.2.1 i hiw, nIs p4, v_give (by omega) (by omega), ss_bd_e, nIa1, hk]
      exact ih (i + 1) (by omega) n' (by omega)
    rw [f_X5_kindBehind_L6, if_neg (lit_nle (by omega) (by omega) (by omega)), if_pos e12, if_pos e12, if_pos e31, nI_clamp (show i < 2 ^ 31 by omega), nI_clamp (show pth g b e i < 2 ^ 31 by omega), hc.2.2.2.1.2.2.1 i hiw]
    by_cases z : g.2.2.2.1.2.2.1 i = -1
    · rw [if_pos z] at hkd
      rw [if_pos z]
      exact j45 _ hkd
    · rw [if_neg z] at hkd
      rw [if_neg z]
      exact j45 _ hkd
