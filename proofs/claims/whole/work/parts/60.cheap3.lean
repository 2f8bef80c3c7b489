/-! cheapest: the reference's rows, and both -/
theorem chV_top (g : pPg) (b : Nat) (e : Bool) : ∀ m x, chV g b e m x ≤ 1048576
  | 0, _ => Nat.zero_le _
  | _ + 1, _ => rnM_top _ _
theorem w_cell (i x : Nat) (τ : ss_M) : f_X8_cellOf (nI i) (nI x) τ = some (nI (31 * i + x), τ) := by
  unfold f_X8_cellOf
  rw [show (31 : Int32) = nI 31 from rfl, nIm, nI_add]
theorem w_costBy {n0 i h b j : Nat} {e : Bool} {g : pPg} {τ : ss_M} (T : Nat → Nat) (hn : n0 ≤ 1000) (hg : gOk n0 g) (hm : mPg τ g) (hi : i < g.1.2.2.1) (hb : b ≤ 30) (hhb : h ≤ b) (hj : j ≤ 6) (hT : ∀ x, x ≤ b → sA τ 24 0 (31 * (i + 1) + x) = nI (T x)) (hTb : ∀ x, T x ≤ 1048576) : f_X8_costBy (nI i) (nI h) (ox j) (nI b) (if e = true then 1 else 0) τ = some (nI (chO g b e T i h j), τ) := by
  have h12 := hg.2.2.1
  have l9 := (hg.2.2.2.2.2.1 i hi).2
  have hk := chK_ok (j := j) hg hi hj
  have hct := spCost_le (ox j) (P := g.1.2.1) (K := g.2.2.2.1.2.1) hg.2.1.2
  have e12 : gd (nI i) 12 = true := gd_nI (by omega) (by decide)
  have ei : (nI i).toNatClampNeg = i := nI_clamp (by omega)
  unfold f_X8_costBy
  rw [if_pos e12, ei, hm.2.1 i hi]
  by_cases hl : h < g.2.1 i
  · rw [if_neg (lit_nle (by omega) (by omega) hl)]
    unfold chO
    rw [if_pos hl]
    rfl
  · rw [if_pos (nI_le (by omega) (by omega)), if_pos e12, hm.2.2.2.1.2.2.1 i hi, if_pos e12]
    have hmk : ∀ (F : Int32 → Option (Int32 × ss_M)), (if g.2.2.2.1.2.2.1 i = -1 then F (ox j) else F (g.2.2.2.1.2.2.1 i)) = F (chK g i j) := by
      intro F
      unfold chK
      split <;> rfl
    rw [hmk (fun x => f_X8_costBy_j33 (nI i) (nI h) (ox j) (nI b) (if e = true then 1 else 0) x τ)]
    obtain ⟨G, hG⟩ : ∃ G, G = spGive (chK g i j) (h - g.2.1 i) b := ⟨_, rfl⟩
    have hGb : G ≤ b := by rw [hG]; exact spGive_le (by omega)
    have oT : chT g b T i h j = T G := by unfold chT; rw [hG]
    have tb := hTb G
    have J61 : f_X8_costBy_j61 (nI i) (nI h) (ox j) (nI b) (chK g i j) τ = some (nI (if j = 0 ∨ 1048576 ≤ T G then T G else T G + (100 * spCost (ox j) g.1.2.1 g.2.2.2.1.2.1 + 1)), τ) := by
      unfold f_X8_costBy_j61 f_X8_costBy_j101
      rw [if_pos e12, ei, hm.2.1 i hi, nIs (by omega), w_give hk (by omega) (by omega), ss_bd_e, ← hG, nIa1, w_cell, ss_bd_e, if_pos (gd_nI (by omega) (by decide)), nI_clamp (show 31 * (i + 1) + G < 2 ^ 31 by omega), hT G hGb]
      by_cases z : j = 0
      · rw [if_pos ((ox_m1 (by omega)).mpr z), if_pos (Or.inl z)]
      · rw [if_neg (fun y => z ((ox_m1 (by omega)).mp y))]
        by_cases y : 1048576 ≤ T G
        · rw [if_neg (show ¬ nI (T G) < (1048576 : Int32) from nI_nlt (b := 1048576) y (by omega)), if_pos (Or.inr y)]
        · rw [if_pos (show nI (T G) < (1048576 : Int32) from nI_lt (b := 1048576) (by omega) (by decide)), if_neg (by omega)]
          obtain ⟨j', rfl⟩ : ∃ j', j = j' + 1 := ⟨j - 1, by omega⟩
          have ho : kOk (ox (j' + 1)) ∧ ox (j' + 1) ≠ -1 := by rw [ox_s]; exact kOk_of ⟨nI_pos' (by omega), rle 5 5 (by omega)⟩
          rw [w_costOf hn hg hm ho.1 ho.2, ss_bd_e, show (100 : Int32) = nI 100 from rfl, nIm, nI_add, nIa1, Nat.add_assoc]
    have O : ∀ q : ¬ ((e = true ∧ i + 1 = g.1.2.2.1) ∧ spEnd (chK g i j) = false), chO g b e T i h j = if j = 0 ∨ 1048576 ≤ T G then T G else T G + (100 * spCost (ox j) g.1.2.1 g.2.2.2.1.2.1 + 1) := by
      intro q
      unfold chO
      rw [if_neg hl, if_neg q, oT]
    show f_X8_costBy_j33 (nI i) (nI h) (ox j) (nI b) (if e = true then 1 else 0) (chK g i j) τ = _
    unfold f_X8_costBy_j33
    cases e with
    | false =>
      rw [if_neg (show ¬ false = true by decide), if_pos rfl, J61, O (fun z => absurd z.1.1 (by decide))]
    | true =>
      have el : nI g.1.2.2.1 - 1 = nI (g.1.2.2.1 - 1) := nIs (b := 1) (by omega)
      rw [if_pos rfl, if_neg n10, hm.1.2.2.1, el]
      by_cases z : i + 1 = g.1.2.2.1
      · rw [if_pos (by rw [← z]; rfl), w_ends hk, ss_bd_e]
        cases y : spEnd (chK g i j) with
        | true =>
          rw [if_pos rfl, if_neg n10, J61, O (fun x => by rw [y] at x; exact absurd x.2 (by decide))]
        | false =>
          rw [if_neg (show ¬ false = true by decide), if_pos rfl]
          unfold chO
          rw [if_neg hl, if_pos ⟨⟨rfl, z⟩, y⟩]
          rfl
      · rw [if_neg (fun y => z (by have := (nI_eq (by omega) (by omega)).mp y; omega)), J61, O (fun x => z x.1.2)]
theorem ox_le {j N : Nat} (h : j < N) (hN : N ≤ 7) : ¬ ox N ≤ ox j := by
  have tN : (ox N).toInt = (N : Int) - 1 := by
    obtain ⟨k, rfl⟩ : ∃ k, N = k + 1 := ⟨N - 1, by omega⟩
    rw [ox_s, tI (by omega)]
    omega
  have tj : (ox j).toInt = (j : Int) - 1 := by
    cases j with
    | zero => rfl
    | succ k => rw [ox_s, tI (by omega)]; omega
  rw [i_le, tN, tj]
  omega
theorem w_opts {n0 i : Nat} {g : pPg} {τ : ss_M} (hg : gOk n0 g) (hm : mPg τ g) (hi : i < g.1.2.2.1) : f_X8_optionsAt (nI i) τ = some (ox (chN g i), τ) := by
  have h12 := hg.2.2.1
  unfold f_X8_optionsAt chN
  rw [if_pos (gd_nI (show i < 12 by omega) (by decide)), nI_clamp (show i < 2 ^ 31 by omega), hm.2.2.2.1.2.2.1 i hi]
  by_cases z : g.2.2.2.1.2.2.1 i = -1
  · rw [if_pos z, if_pos z]; rfl
  · rw [if_neg z, if_neg z]; rfl
theorem w_ch55 {n0 i h b : Nat} {e : Bool} {g : pPg} {τ : ss_M} (T : Nat → Nat) (k : Int32 → ss_M → Option ss_M) (hn : n0 ≤ 1000) (hg : gOk n0 g) (hm : mPg τ g) (hi : i < g.1.2.2.1) (hb : b ≤ 30) (hhb : h ≤ b) (hT : ∀ x, x ≤ b → sA τ 24 0 (31 * (i + 1) + x) = nI (T x)) (hTb : ∀ x, T x ≤ 1048576) : ∀ mm j : Nat, j + mm = chN g i → ∀ n, mm < n → f_X8_setLeast_L55 (nI b) (if e = true then 1 else 0) (nI i) (nI h) k n (nI (rnM (chO g b e T i h) j).1) (ox j) τ = k (nI (rnM (chO g b e T i h) (chN g i)).1) τ := by
  intro mm
  have hN := chN_7 g i
  induction mm with
  | zero =>
    intro j hj n hn'
    obtain ⟨n', rfl⟩ : ∃ n', n = n' + 1 := ⟨n - 1, by omega⟩
    have : j = chN g i := by omega
    subst this
    rw [f_X8_setLeast_L55, w_opts hg hm hi, ss_bd_e, if_pos (Int32.le_refl _)]
  | succ mm ih =>
    intro j hj n hn'
    obtain ⟨n', rfl⟩ : ∃ n', n = n' + 1 := ⟨n - 1, by omega⟩
    have top := rnM_top (chO g b e T i h) j
    have fo : chO g b e T i h j < 2 ^ 31 := by
      have hct := spCost_le (ox j) (P := g.1.2.1) (K := g.2.2.2.1.2.1) hg.2.1.2
      unfold chO
      split
      · omega
      · split
        · omega
        · have : chT g b T i h j ≤ 1048576 := hTb _
          split <;> omega
    rw [f_X8_setLeast_L55, w_opts hg hm hi, ss_bd_e, if_neg (ox_le (by omega) hN), w_costBy T hn hg hm hi hb hhb (by omega) hT hTb, ss_bd_e, w_les, ss_bd_e, ox_1]
    have e1 : (if nI (chO g b e T i h j) ≤ nI (rnM (chO g b e T i h) j).1 then nI (chO g b e T i h j) else nI (rnM (chO g b e T i h) j).1) = nI (rnM (chO g b e T i h) (j + 1)).1 := by
      rw [rnM_s]
      by_cases q : chO g b e T i h j < (rnM (chO g b e T i h) j).1
      · rw [if_pos (nI_le (by omega) (by omega)), if_pos q]
      · rw [if_neg q]
        by_cases z : chO g b e T i h j = (rnM (chO g b e T i h) j).1
        · rw [z]; split <;> rfl
        · rw [if_neg (lit_nle (by omega) (by omega) (by omega))]
    rw [e1]
    exact ih (j + 1) (by omega) n' (by omega)
theorem w_ch42 {n0 i b : Nat} {e : Bool} {g : pPg} (T : Nat → Nat) (k : ss_M → Option ss_M) (hn : n0 ≤ 1000) (hg : gOk n0 g) (hi : i < g.1.2.2.1) (hb : b ≤ 30) (hTb : ∀ x, T x ≤ 1048576) : ∀ mm h : Nat, h + mm = b + 1 → ∀ (τ : ss_M) (n : Nat), mm < n → mPg τ g → (∀ x, x ≤ b → sA τ 24 0 (31 * (i + 1) + x) = nI (T x)) → (∀ x, x < h → sA τ 24 0 (31 * i + x) = nI (rnM (chO g b e T i x) (chN g i)).1) → ∃ τ', f_X8_setLeast_L42 (nI b) (if e = true then 1 else 0) (nI i) k n (nI h) τ = k τ' ∧ QM τ τ' ∧ (∀ x, x ≤ b → sA τ' 24 0 (31 * i + x) = nI (rnM (chO g b e T i x) (chN g i)).1) ∧ ∀ y, 31 * (i + 1) ≤ y → sA τ' 24 0 y = sA τ 24 0 y := by
  have h12 := hg.2.2.1
  have hN := chN_7 g i
  intro mm
  induction mm with
  | zero =>
    intro h hh τ n hn' hm hT hD
    obtain ⟨n', rfl⟩ : ∃ n', n = n' + 1 := ⟨n - 1, by omega⟩
    refine ⟨τ, ?_, QM.rf, fun x hx => hD x (by omega), fun y _ => rfl⟩
    rw [f_X8_setLeast_L42, if_pos (nI_lt (by omega) (by omega))]
  | succ mm ih =>
    intro h hh τ n hn' hm hT hD
    obtain ⟨n', rfl⟩ : ∃ n', n = n' + 1 := ⟨n - 1, by omega⟩
    obtain ⟨v, hv⟩ : ∃ v, v = nI (rnM (chO g b e T i h) (chN g i)).1 := ⟨_, rfl⟩
    obtain ⟨τ1, hτ1⟩ : ∃ τ1, τ1 = sAu τ 24 0 (upd (sA τ 24 0) (31 * i + h) v) := ⟨_, rfl⟩
    have qm : QM τ τ1 := by rw [hτ1]; exact QM_a (by omega)
    have r1 : ∀ y, y ≠ 31 * i + h → sA τ1 24 0 y = sA τ 24 0 y := fun y hy => by rw [hτ1, sA_m, upd_n hy]
    obtain ⟨τ', d1, d2, d3, d4⟩ := ih (h + 1) (by omega) τ1 n' (by omega) (hm.same qm.2) (fun x hx => by rw [r1 _ (by omega)]; exact hT x hx) (fun x hx => by
      by_cases q : x = h
      · rw [q, hτ1, sA_m, upd_m, hv]
      · rw [r1 _ (by omega)]; exact hD x (by omega))
    refine ⟨τ', ?_, qm.tr d2, d3, fun y hy => by rw [d4 y hy, r1 y (by omega)]⟩
    have f := w_ch55 (e := e) T (f_X8_setLeast_j89 (nI i) (nI h) (f_X8_setLeast_L42 (nI b) (if e = true then 1 else 0) (nI i) k n')) hn hg hm hi hb (show h ≤ b by omega) hT hTb (chN g i) 0 (by omega) FU (FU_gt (by omega))
    rw [f_X8_setLeast_L42, if_neg (nI_nlt (by omega) (by omega))]
    refine Eq.trans f ?_
    unfold f_X8_setLeast_j89
    rw [w_cell, ss_bd_e, if_pos (gd_nI (by omega) (by decide)), nI_clamp (by omega), nIa1, ← hv, ← hτ1]
    exact d1
def rwM (g : pPg) (b : Nat) (e : Bool) (m : Nat) (τ : ss_M) : Prop := ∀ k, k ≤ m → ∀ x, x ≤ b → sA τ 24 0 (31 * (g.1.2.2.1 - k) + x) = nI (chV g b e k x)
theorem w_ch35 {n0 b : Nat} {e : Bool} {g : pPg} (hn : n0 ≤ 1000) (hg : gOk n0 g) (hb : b ≤ 30) : ∀ r m : Nat, m + r = g.1.2.2.1 → ∀ (τ : ss_M) (n : Nat), r < n → mPg τ g → rwM g b e m τ → ∃ τ', f_X8_setLeast_L35 (nI b) (if e = true then 1 else 0) n (nI (g.1.2.2.1 - m) - 1) τ = some τ' ∧ QM τ τ' ∧ rwM g b e g.1.2.2.1 τ' := by
  have h12 := hg.2.2.1
  intro r
  induction r with
  | zero =>
    intro m hm τ n hn' hp I
    obtain ⟨n', rfl⟩ : ∃ n', n = n' + 1 := ⟨n - 1, by omega⟩
    have hmw : m = g.1.2.2.1 := by omega
    refine ⟨τ, ?_, QM.rf, hmw ▸ I⟩
    rw [f_X8_setLeast_L35, if_pos (by rw [hmw, Nat.sub_self]; decide)]
  | succ r ih =>
    intro m hm τ n hn' hp I
    obtain ⟨n', rfl⟩ : ∃ n', n = n' + 1 := ⟨n - 1, by omega⟩
    have ei : nI (g.1.2.2.1 - m) - 1 = nI (g.1.2.2.1 - (m + 1)) := nIs (b := 1) (by omega)
    obtain ⟨i, hi⟩ : ∃ i, i = g.1.2.2.1 - (m + 1) := ⟨_, rfl⟩
    have hiw : i < g.1.2.2.1 := by omega
    have i1 : g.1.2.2.1 - m = i + 1 := by omega
    obtain ⟨τ1, k1, k2, k3, k4⟩ := w_ch42 (e := e) (chV g b e m) (f_X8_setLeast_j108 (nI i) (f_X8_setLeast_L35 (nI b) (if e = true then 1 else 0) n')) hn hg hiw hb (chV_top g b e m) (b + 1) 0 (by omega) τ FU (FU_gt (by omega)) hp (fun x hx => by rw [← i1]; exact I m (Nat.le_refl _) x hx) (fun x hx => by omega)
    have I' : rwM g b e (m + 1) τ1 := by
      intro k hk x hx
      by_cases z : k = m + 1
      · rw [z, ← hi, k3 x hx, hi]
        rfl
      · rw [k4 _ (by omega)]
        exact I k (by omega) x hx
    obtain ⟨τ', d1, d2, d3⟩ := ih (m + 1) (by omega) τ1 n' (by omega) (hp.same k2.2) I'
    refine ⟨τ', ?_, k2.tr d2, d3⟩
    have em : nI i + -1 = nI i - 1 := by rw [Int32.sub_eq_add_neg]
    rw [← hi] at d1
    rw [f_X8_setLeast_L35, ei, ← hi, if_neg (nI_pos (by omega))]
    refine Eq.trans k1 ?_
    unfold f_X8_setLeast_j108
    rw [em]
    exact d1
theorem w_ch2 {w : Nat} (k : ss_M → Option ss_M) (hw : w ≤ 12) : ∀ mm h : Nat, h + mm = 31 → ∀ (τ : ss_M) (n : Nat), mm < n → sG τ 17 0 = nI w → (∀ x, x < h → sA τ 24 0 (31 * w + x) = nI 0) → ∃ τ', f_X8_setLeast_L2 k n (nI h) τ = k τ' ∧ QM τ τ' ∧ ∀ x, x ≤ 30 → sA τ' 24 0 (31 * w + x) = nI 0 := by
  intro mm
  induction mm with
  | zero =>
    intro h hh τ n hn' hm hD
    obtain ⟨n', rfl⟩ : ∃ n', n = n' + 1 := ⟨n - 1, by omega⟩
    refine ⟨τ, ?_, QM.rf, fun x hx => hD x (by omega)⟩
    rw [f_X8_setLeast_L2, if_pos (show (30 : Int32) < nI h from nI_lt (a := 30) (by omega) (by omega))]
  | succ mm ih =>
    intro h hh τ n hn' hm hD
    obtain ⟨n', rfl⟩ : ∃ n', n = n' + 1 := ⟨n - 1, by omega⟩
    obtain ⟨τ1, hτ1⟩ : ∃ τ1, τ1 = sAu τ 24 0 (upd (sA τ 24 0) (31 * w + h) 0) := ⟨_, rfl⟩
    have qm : QM τ τ1 := by rw [hτ1]; exact QM_a (by omega)
    obtain ⟨τ', d1, d2, d3⟩ := ih (h + 1) (by omega) τ1 n' (by omega) (by rw [hτ1, sG_A]; exact hm) (fun x hx => by
      rw [hτ1, sA_m]
      by_cases q : x = h
      · rw [q, upd_m]; rfl
      · rw [upd_n (by omega)]; exact hD x (by omega))
    refine ⟨τ', ?_, qm.tr d2, d3⟩
    rw [f_X8_setLeast_L2, if_neg (show ¬ (30 : Int32) < nI h from nI_nlt (b := h) (a := 30) (by omega) (by decide)), hm, w_cell, ss_bd_e, if_pos (gd_nI (by omega) (by decide)), nI_clamp (by omega), nIa1, ← hτ1]
    exact d1
theorem w_setLeast {n0 b : Nat} {e : Bool} {g : pPg} {τ : ss_M} (hn : n0 ≤ 1000) (hg : gOk n0 g) (hb : b ≤ 30) (hm : mPg τ g) : ∃ τ', f_X8_setLeast (nI b) (if e = true then 1 else 0) τ = some τ' ∧ QM τ τ' ∧ rwM g b e g.1.2.2.1 τ' := by
  have h12 := hg.2.2.1
  obtain ⟨τ1, k1, k2, k3⟩ := w_ch2 (f_X8_setLeast_j28 (nI b) (if e = true then 1 else 0)) h12 31 0 rfl τ FU (FU_gt (by decide)) hm.1.2.2.1 (fun x hx => by omega)
  obtain ⟨τ', d1, d2, d3⟩ := w_ch35 (e := e) hn hg hb g.1.2.2.1 0 (Nat.zero_add _) τ1 FU (FU_gt (by omega)) (hm.same k2.2) (fun k hk x hx => by
    have : k = 0 := by omega
    rw [this, Nat.sub_zero]
    exact k3 x (by omega))
  refine ⟨τ', ?_, k2.tr d2, d3⟩
  unfold f_X8_setLeast
  refine Eq.trans k1 ?_
  unfold f_X8_setLeast_j28
  rw [(hm.same k2.2).1.2.2.1]
  rw [Nat.sub_zero] at d1
  exact d1
theorem w_ch96 {n0 i b : Nat} {e : Bool} {g : pPg} {τ : ss_M} (k : Int32 → ss_M → Option (Int32 × ss_M)) (hn : n0 ≤ 1000) (hg : gOk n0 g) (hb : b ≤ 30) (hm : mPg τ g) (hf : chV g b e g.1.2.2.1 b < 1048576) (I : rwM g b e g.1.2.2.1 τ) (hi : i < g.1.2.2.1) : ∀ mm j : Nat, j + mm = chC g b e (g.1.2.2.1 - (i + 1)) (pth g b e i) → ∀ n, mm < n → f_X8_cheapest_L96 (nI b) (if e = true then 1 else 0) (nI (pth g b e i)) (nI i) k n (ox j) τ = k (ox (chC g b e (g.1.2.2.1 - (i + 1)) (pth g b e i))) τ := by
  have h12 := hg.2.2.1
  have hN := chN_7 g i
  obtain ⟨p1, p2, p3⟩ := pth_ok hg hf i (by omega)
  obtain ⟨p4, p5⟩ := p3 hi
  obtain ⟨s1, s2⟩ := chV_s (b := b) (e := e) hi (pth g b e i)
  have p2' := p2
  rw [s1] at p2'
  obtain ⟨r1, r2, r3⟩ := rnM_at _ _ p2'
  rw [← s2] at r2 r3
  rw [← s1] at r2 r3
  have hT : ∀ x, x ≤ b → sA τ 24 0 (31 * (i + 1) + x) = nI (chV g b e (g.1.2.2.1 - (i + 1)) x) := fun x hx => by
    have := I (g.1.2.2.1 - (i + 1)) (by omega) x hx
    have e1 : g.1.2.2.1 - (g.1.2.2.1 - (i + 1)) = i + 1 := by omega
    rw [e1] at this
    exact this
  have hV : sA τ 24 0 (31 * i + pth g b e i) = nI (chV g b e (g.1.2.2.1 - i) (pth g b e i)) := by
    have := I (g.1.2.2.1 - i) (by omega) _ p1
    have e1 : g.1.2.2.1 - (g.1.2.2.1 - i) = i := by omega
    rw [e1] at this
    exact this
  have fo : ∀ j, chO g b e (chV g b e (g.1.2.2.1 - (i + 1))) i (pth g b e i) j < 2 ^ 31 := by
    intro j
    have hct := spCost_le (ox j) (P := g.1.2.1) (K := g.2.2.2.1.2.1) hg.2.1.2
    unfold chO
    split
    · omega
    · split
      · omega
      · have : chT g b (chV g b e (g.1.2.2.1 - (i + 1))) i (pth g b e i) j ≤ 1048576 := chV_top _ _ _ _ _
        split <;> omega
  intro mm
  induction mm with
  | zero =>
    intro j hj n hn'
    obtain ⟨n', rfl⟩ : ∃ n', n = n' + 1 := ⟨n - 1, by omega⟩
    have : j = chC g b e (g.1.2.2.1 - (i + 1)) (pth g b e i) := by omega
    rw [f_X8_cheapest_L96, w_costBy _ hn hg hm hi hb p1 (by omega) hT (chV_top _ _ _ _), ss_bd_e, w_cell, ss_bd_e, if_pos (gd_nI (by omega) (by decide)), nI_clamp (by omega), hV, this, r2, if_pos rfl]
  | succ mm ih =>
    intro j hj n hn'
    obtain ⟨n', rfl⟩ : ∃ n', n = n' + 1 := ⟨n - 1, by omega⟩
    have lt := r3 j (by omega)
    rw [f_X8_cheapest_L96, w_costBy _ hn hg hm hi hb p1 (by omega) hT (chV_top _ _ _ _), ss_bd_e, w_cell, ss_bd_e, if_pos (gd_nI (by omega) (by decide)), nI_clamp (by omega), hV, if_neg (fun z => by
      have := (nI_eq (fo j) (by omega)).mp z
      omega), ox_1]
    exact ih (j + 1) (by omega) n' (by omega)
theorem w_ch84 {n0 b : Nat} {e : Bool} {g : pPg} {V : Int32} (k : Int32 → ss_M → Option (Int32 × ss_M)) (hn : n0 ≤ 1000) (hg : gOk n0 g) (hb : b ≤ 30) (hf : chV g b e g.1.2.2.1 b < 1048576) : ∀ mm i : Nat, i + mm = g.1.2.2.1 → ∀ (τ : ss_M) (n : Nat), mm < n → mPg τ g → rwM g b e g.1.2.2.1 τ → (∀ x, x < i → sA τ 25 0 x = ox (chC g b e (g.1.2.2.1 - (x + 1)) (pth g b e x))) → ∃ τ', f_X8_cheapest_L84 (nI b) (if e = true then 1 else 0) k n V (nI (pth g b e i)) (nI i) τ = k V τ' ∧ QM τ τ' ∧ ∀ x, x < g.1.2.2.1 → sA τ' 25 0 x = ox (chC g b e (g.1.2.2.1 - (x + 1)) (pth g b e x)) := by
  have h12 := hg.2.2.1
  intro mm
  induction mm with
  | zero =>
    intro i hi τ n hn' hm I hD
    obtain ⟨n', rfl⟩ : ∃ n', n = n' + 1 := ⟨n - 1, by omega⟩
    refine ⟨τ, ?_, QM.rf, fun x hx => hD x (by omega)⟩
    rw [f_X8_cheapest_L84, hm.1.2.2.1, if_pos (nI_le (by omega) (by omega))]
  | succ mm ih =>
    intro i hi τ n hn' hm I hD
    obtain ⟨n', rfl⟩ : ∃ n', n = n' + 1 := ⟨n - 1, by omega⟩
    have hiw : i < g.1.2.2.1 := by omega
    have e12 : gd (nI i) 12 = true := gd_nI (by omega) (by decide)
    have ei : (nI i).toNatClampNeg = i := nI_clamp (by omega)
    obtain ⟨p1, p2, p3⟩ := pth_ok hg hf i (by omega)
    obtain ⟨p4, p5⟩ := p3 hiw
    have hN := chN_7 g i
    obtain ⟨c, hc⟩ : ∃ c, c = chC g b e (g.1.2.2.1 - (i + 1)) (pth g b e i) := ⟨_, rfl⟩
    obtain ⟨τ1, hτ1⟩ : ∃ τ1, τ1 = sAu τ 25 0 (upd (sA τ 25 0) i (ox c)) := ⟨_, rfl⟩
    have qm : QM τ τ1 := by rw [hτ1]; exact QM_a (by omega)
    have hm1 := hm.same qm.2
    obtain ⟨τ', d1, d2, d3⟩ := ih (i + 1) (by omega) τ1 n' (by omega) hm1 (fun q hq x hx => by rw [hτ1, sA_n _ _ (by omega)]; exact I q hq x hx) (fun x hx => by
      rw [hτ1, sA_m]
      by_cases q : x = i
      · rw [q, upd_m, hc]
      · rw [upd_n q]; exact hD x (by omega))
    refine ⟨τ', ?_, qm.tr d2, d3⟩
    have f := w_ch96 (e := e) (f_X8_cheapest_j130 (nI b) V (nI (pth g b e i)) (nI i) (f_X8_cheapest_L84 (nI b) (if e = true then 1 else 0) k n')) hn hg hb hm hf I hiw _ 0 (Nat.zero_add _) FU (FU_gt (by omega))
    rw [f_X8_cheapest_L84, hm.1.2.2.1, if_neg (lit_nle (by omega) (by omega) (by omega))]
    refine Eq.trans f ?_
    rw [← hc]
    unfold f_X8_cheapest_j130
    rw [if_pos e12, if_pos e12, if_pos e12, ei, ← hτ1, hm1.2.2.2.1.2.2.1 i hiw]
    have hk := chK_ok (j := c) hg hiw (by omega)
    have j162 : f_X8_cheapest_j162 (nI b) V (nI (pth g b e i)) (nI i) (f_X8_cheapest_L84 (nI b) (if e = true then 1 else 0) k n') (chK g i c) τ1 = k V τ' := by
      unfold f_X8_cheapest_j162
      rw [if_pos e12, ei, hm1.2.1 i hiw, nIs p4, w_give hk (by omega) (by omega), ss_bd_e, nIa1, hc]
      exact d1
    unfold chK at j162
    by_cases z : g.2.2.2.1.2.2.1 i = -1
    · rw [if_pos z] at j162 ⊢
      exact j162
    · rw [if_neg z] at j162 ⊢
      exact j162
theorem ch_both {n b : Nat} {e : Bool} {q : Int32} {g : pPg} {σ τ : ss_M} (hn : n ≤ 1000) (H : Cpl n σ τ) (hg : gOk n g) (hc : cPg σ 0 g) (hm : mPg τ g) (hb : b ≤ 30) (hq : -1 ≤ q) : simI n (f_X7_cheapest_j47 (nI b) q (if e = true then 1 else 0) σ) (f_X8_cheapest_j39 (nI b) q (if e = true then 1 else 0) τ) := by
  have h12 := hg.2.2.1
  obtain ⟨σ1, a1, a2, a3⟩ := v_make (e := e) hn hg hb H.1 hc
  obtain ⟨τ1, b1, b2, b3⟩ := w_setLeast (e := e) hn hg hb hm
  have hc1 := hc.same H.1 (by decide) hg a2.2
  have hm1 := hm.same b2.2
  have b31 : gd (nI b) 31 = true := gd_nI (by omega) (by decide)
  have cb : (nI b).toNatClampNeg = b := nI_clamp (by omega)
  have top := chV_top g b e g.1.2.2.1 b
  have R := a3.1 g.1.2.2.1 (Nat.le_refl _) b (Nat.le_refl _)
  have S := b3 g.1.2.2.1 (Nat.le_refl _) b (Nat.le_refl _)
  rw [Nat.sub_self] at R S
  have wc : f_X8_cellOf 0 (nI b) τ1 = some (nI (31 * 0 + b), τ1) := w_cell 0 b τ1
  have hC : f_X5_cost (nI b) σ1 = some (sA σ1 6 0 b, σ1) := by
    unfold f_X5_cost
    rw [if_pos (show gd (0 : Int32) 13 = true by decide), if_pos b31, c_0, cb]
  have hI : f_X5_isThere (nI b) σ1 = some (if 1000000 ≤ sA σ1 6 0 b then 0 else 1, σ1) := by
    unfold f_X5_isThere
    rw [if_pos (show gd (0 : Int32) 13 = true by decide), if_pos b31, c_0, cb]
    split <;> rfl
  unfold f_X7_cheapest_j47 f_X8_cheapest_j39
  rw [a1, Option.bind_some, b1, Option.bind_some, hc1.1.2.2.1, wc, ss_bd_e, if_pos (gd_nI (by omega) (by decide)), nI_clamp (show 31 * 0 + b < 2 ^ 31 by omega), S, hm1.1.2.2.1, hI]
  by_cases hf : chV g b e g.1.2.2.1 b < 1048576
  · obtain ⟨c, k, r1, r2, r3, r4, r5⟩ : ∃ c k, chV g b e g.1.2.2.1 b = 100 * c + k ∧ c ≤ 57 * g.1.2.2.1 ∧ k ≤ g.1.2.2.1 ∧ sA σ1 6 0 b = nI c ∧ sA σ1 7 0 b = nI k := by
      rcases R with ⟨z, _⟩ | R
      · omega
      · exact R
    rw [if_neg (show ¬ (1048576 : Int32) ≤ nI (chV g b e g.1.2.2.1 b) from lit_nle (a := 1048576) (by decide) (by omega) hf), r4, if_neg (show ¬ (1000000 : Int32) ≤ nI c from lit_nle (a := 1000000) (by decide) (by omega) (by omega)), ss_bd_e, if_neg n10]
    obtain ⟨τ2, d1, d2, d3⟩ := w_ch84 (e := e) (V := nI (chV g b e g.1.2.2.1 b)) (f_X8_cheapest_j184 q) hn hg hb hf g.1.2.2.1 0 (Nat.zero_add _) τ1 FU (FU_gt (by omega)) hm1 b3 (fun x hx => by omega)
    by_cases qw : nI g.1.2.2.1 ≤ q
    · rw [if_pos qw, if_neg (Int32.not_lt.mpr qw)]
      exact ⟨_, _, _, rfl, rfl, H.q a2 b2⟩
    · rw [if_neg qw, if_pos (Int32.not_le.mp qw)]
      by_cases qm : q = -1
      · rw [if_pos qm, hC, ss_bd_e, r4]
        refine ⟨nI c, σ1, τ2, rfl, ?_, H.q a2 (b2.tr d2)⟩
        refine Eq.trans d1 ?_
        unfold f_X8_cheapest_j184
        rw [if_pos qm, show (100 : Int32) = nI 100 from rfl, pk_div (by omega) (by decide) (by decide), r1]
        have : (100 * c + k) / 100 = c := by omega
        rw [this]
      · have q0 : 0 ≤ q := by
          have e1 := i_le.mp hq
          have e2 : (-1 : Int32).toInt = -1 := by decide
          have e3 : q.toInt ≠ -1 := fun z => qm (i_eq.mpr (by rw [z, e2]))
          exact i_le.mpr (by have : (0 : Int32).toInt = 0 := by decide
                             omega)
        obtain ⟨i, hi, rfl⟩ := isP_nI h12 ⟨q0, Int32.not_le.mp qw⟩
        rw [if_neg qm]
        obtain ⟨p1, p2, p3⟩ := pth_ok hg hf i (by omega)
        have kb := v_kb (e := e) (f_X5_kindBehind_j71 (nI i)) hg hb hc1 hi hf a3 i 0 (Nat.zero_add _) FU (FU_gt (by omega))
        have kb' : f_X5_kindBehind 0 (nI b) (nI i) σ1 = some (ox (chC g b e (g.1.2.2.1 - (i + 1)) (pth g b e i)), σ1) := by
          unfold f_X5_kindBehind
          refine Eq.trans kb ?_
          unfold f_X5_kindBehind_j71
          rw [if_pos (gd_nI (show i < 12 by omega) (by decide)), if_pos (gd_nI (show pth g b e i < 31 by omega) (by decide)), nI_clamp (show i < 2 ^ 31 by omega), nI_clamp (show pth g b e i < 2 ^ 31 by omega)]
          have := a3.2 (g.1.2.2.1 - (i + 1)) (by omega) (pth g b e i) p1 (by
            have e1 : g.1.2.2.1 - (i + 1) + 1 = g.1.2.2.1 - i := by omega
            rw [e1]
            exact p2)
          have e2 : g.1.2.2.1 - (g.1.2.2.1 - (i + 1) + 1) = i := by omega
          rw [e2] at this
          rw [this]
        rw [kb', ss_bd_e]
        refine ⟨_, σ1, τ2, rfl, ?_, H.q a2 (b2.tr d2)⟩
        refine Eq.trans d1 ?_
        unfold f_X8_cheapest_j184
        rw [if_neg qm, if_pos (gd_nI (show i < 12 by omega) (by decide)), nI_clamp (show i < 2 ^ 31 by omega), d3 i hi]
  · have hV : chV g b e g.1.2.2.1 b = 1048576 := by omega
    have R6 : sA σ1 6 0 b = nI 1000000 := by
      rcases R with ⟨_, z⟩ | ⟨c, k, z1, z2, z3, _⟩
      · exact z
      · omega
    rw [hV, if_pos (show (1048576 : Int32) ≤ nI 1048576 by decide), R6, if_pos (show (1000000 : Int32) ≤ nI 1000000 by decide), ss_bd_e, if_pos rfl]
    refine ⟨_, σ1, τ1, ?_, rfl, H.q a2 b2⟩
    split <;> rfl
theorem v_ch21 (σ : ss_M) : f_X7_cheapest_j21 σ = some (-10, sGu σ 14 0 (sG σ 14 0 + 1)) := by
  unfold f_X7_cheapest_j21
  rw [v_bad, ss_bd_e]
theorem w_ch24 (τ : ss_M) : f_X8_cheapest_j24 τ = some (-10, sAu τ 16 0 (upd (sA τ 16 0) 0 (sA τ 16 0 0 + 1))) := by
  unfold f_X8_cheapest_j24
  rw [w_ten, ss_bd_e]
theorem sim_cheapest {n : Nat} {σ τ : ss_M} (hn : n ≤ 1000) (H : Cpl n σ τ) (p0 p1 p2 : Int32) : simI n (f_X7_cheapest p0 p1 p2 σ) (f_X8_cheapest p0 p1 p2 τ) := by
  obtain ⟨g, hg, hc, hm⟩ := H.2.1
  have bad : simI n (f_X7_cheapest_j21 σ) (f_X8_cheapest_j24 τ) := by
    rw [v_ch21, w_ch24]
    exact ⟨_, _, _, rfl, rfl, R_bad H⟩
  unfold f_X7_cheapest f_X8_cheapest
  by_cases h0 : 1 ≤ p0 ∧ p0 ≤ 30
  · rw [v_br1 h0, w_in1 h0, ss_bd_e, ss_bd_e, if_neg n10, if_neg n10]
    by_cases h1 : 0 ≤ p1 ∧ p1 ≤ 1
    · rw [v_in1 h1, w_in1 h1, ss_bd_e, ss_bd_e, if_neg n10, if_neg n10]
      by_cases h2 : -1 ≤ p2
      · rw [if_pos h2, if_pos h2]
        obtain ⟨b, b1, b2, rfl⟩ := i_mid (a := 1) (b := 30) (by omega) h0.1 h0.2 (by omega)
        by_cases z : p1 = 1
        · rw [if_pos z, if_pos z]
          exact ch_both (e := true) hn H hg hc hm b2 h2
        · rw [if_neg z, if_neg z]
          exact ch_both (e := false) hn H hg hc hm b2 h2
      · rw [if_neg h2, if_neg h2]
        exact bad
    · rw [v_in0 h1, w_in0 h1, ss_bd_e, ss_bd_e, if_pos rfl, if_pos rfl]
      exact bad
  · rw [v_br0 h0, w_in0 h0, ss_bd_e, ss_bd_e, if_pos rfl, if_pos rfl]
    exact bad
