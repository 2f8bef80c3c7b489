/-! cheapest: what both reckon -/
def rnM (f : Nat → Nat) : Nat → Nat × Nat
  | 0 => (1048576, 0)
  | j + 1 => if f j < (rnM f j).1 then (f j, j) else rnM f j
theorem rnM_s (f : Nat → Nat) (j : Nat) : rnM f (j + 1) = if f j < (rnM f j).1 then (f j, j) else rnM f j := rfl
theorem rnM_top (f : Nat → Nat) : ∀ n, (rnM f n).1 ≤ 1048576
  | 0 => Nat.le_refl _
  | n + 1 => by
    have := rnM_top f n
    rw [rnM_s]
    split
    · next h => exact Nat.le_trans (Nat.le_of_lt h) this
    · exact this
theorem rnM_at (f : Nat → Nat) : ∀ n, (rnM f n).1 < 1048576 → (rnM f n).2 < n ∧ f (rnM f n).2 = (rnM f n).1 ∧ ∀ j, j < (rnM f n).2 → (rnM f n).1 < f j := by
  intro n
  have le : ∀ n j, j < n → (rnM f n).1 ≤ f j := by
    intro n
    induction n with
    | zero => intro j h; omega
    | succ n ih =>
      intro j h
      rw [rnM_s]
      by_cases q : f n < (rnM f n).1
      · rw [if_pos q]
        by_cases e : j = n
        · rw [e]; exact Nat.le_refl _
        · exact Nat.le_trans (Nat.le_of_lt q) (ih j (by omega))
      · rw [if_neg q]
        by_cases e : j = n
        · rw [e]; omega
        · exact ih j (by omega)
  induction n with
  | zero => intro h; exact absurd h (Nat.lt_irrefl _)
  | succ n ih =>
    rw [rnM_s]
    by_cases q : f n < (rnM f n).1
    · rw [if_pos q]
      exact fun _ => ⟨Nat.lt_succ_self n, rfl, fun j hj => Nat.lt_of_lt_of_le q (le n j hj)⟩
    · rw [if_neg q]
      intro h
      obtain ⟨h1, h2, h3⟩ := ih h
      exact ⟨by omega, h2, h3⟩
def chK (g : pPg) (i j : Nat) : Int32 := if g.2.2.2.1.2.2.1 i = -1 then ox j else g.2.2.2.1.2.2.1 i
def chT (g : pPg) (b : Nat) (T : Nat → Nat) (i h j : Nat) : Nat := T (spGive (chK g i j) (h - g.2.1 i) b)
def chO (g : pPg) (b : Nat) (e : Bool) (T : Nat → Nat) (i h j : Nat) : Nat :=
  if h < g.2.1 i then 1048576 else if (e = true ∧ i + 1 = g.1.2.2.1) ∧ spEnd (chK g i j) = false then 1048576 else if j = 0 ∨ 1048576 ≤ chT g b T i h j then chT g b T i h j else chT g b T i h j + (100 * spCost (ox j) g.1.2.1 g.2.2.2.1.2.1 + 1)
def chN (g : pPg) (i : Nat) : Nat := if g.2.2.2.1.2.2.1 i = -1 then 7 else 1
def chV (g : pPg) (b : Nat) (e : Bool) : Nat → Nat → Nat
  | 0 => fun _ => 0
  | m + 1 => fun h => (rnM (chO g b e (chV g b e m) (g.1.2.2.1 - (m + 1)) h) (chN g (g.1.2.2.1 - (m + 1)))).1
def chC (g : pPg) (b : Nat) (e : Bool) (m h : Nat) : Nat := (rnM (chO g b e (chV g b e m) (g.1.2.2.1 - (m + 1)) h) (chN g (g.1.2.2.1 - (m + 1)))).2
/-- a cell of the class against the number -/
def relC (m v : Nat) (x y : Int32) : Prop := (v = 1048576 ∧ x = nI 1000000) ∨ ∃ c k, v = 100 * c + k ∧ c ≤ 57 * m ∧ k ≤ m ∧ x = nI c ∧ y = nI k
theorem chN_7 (g : pPg) (i : Nat) : chN g i ≤ 7 := by unfold chN; split <;> omega
theorem chN_1 (g : pPg) (i : Nat) : 1 ≤ chN g i := by unfold chN; split <;> omega
theorem chK_ok {n0 i j : Nat} {g : pPg} (hg : gOk n0 g) (hi : i < g.1.2.2.1) (hj : j ≤ 6) : kOk (chK g i j) := by
  unfold chK
  split
  · cases j with
    | zero => exact Or.inl rfl
    | succ j => rw [ox_s]; exact (kOk_of ⟨nI_pos' (by omega), rle 5 5 (by omega)⟩).1
  · exact hg.2.2.2.2.2.2.1.2.2 i hi
def cs (σ : ss_M) (i : Nat) (a b c : Nat → Int32) : ss_M := sAu (sAu (sAu σ 6 i a) 7 i b) 8 i c
theorem cs_6 (σ : ss_M) (i : Nat) (a b c : Nat → Int32) : sA (cs σ i a b c) 6 i = a := by
  unfold cs
  rw [sA_n _ _ (by omega), sA_n _ _ (by omega), sA_m]
theorem cs_7 (σ : ss_M) (i : Nat) (a b c : Nat → Int32) : sA (cs σ i a b c) 7 i = b := by
  unfold cs
  rw [sA_n _ _ (by omega), sA_m]
theorem cs_8 (σ : ss_M) (i : Nat) (a b c : Nat → Int32) : sA (cs σ i a b c) 8 i = c := by
  unfold cs
  rw [sA_m]
theorem cs_n (σ : ss_M) (i : Nat) (a b c : Nat → Int32) {f o : Nat} (h : (f ≠ 6 ∧ f ≠ 7 ∧ f ≠ 8) ∨ o ≠ i) : sA (cs σ i a b c) f o = sA σ f o := by
  unfold cs
  rw [sA_n _ _ (by omega), sA_n _ _ (by omega), sA_n _ _ (by omega)]
theorem cs_q {σ : ss_M} {i : Nat} {a b c : Nat → Int32} (hL : LAY σ) : QC σ (cs σ i a b c) :=
  ((QC_a (v := a) hL (by omega)).tr (QC_a (v := b) (LAY_a hL) (by omega))).tr (QC_a (v := c) (LAY_a (LAY_a hL)) (by omega))
theorem cs_u6 (σ : ss_M) (i : Nat) (a b c a' : Nat → Int32) : sAu (cs σ i a b c) 6 i a' = cs σ i a' b c := by
  unfold cs
  rw [sA_com _ (c := 8) (d := 6) (by decide), sA_com _ (c := 7) (d := 6) (by decide), sA_2]
theorem cs_u7 (σ : ss_M) (i : Nat) (a b c b' : Nat → Int32) : sAu (cs σ i a b c) 7 i b' = cs σ i a b' c := by
  unfold cs
  rw [sA_com _ (c := 8) (d := 7) (by decide), sA_2]
theorem cs_u8 (σ : ss_M) (i : Nat) (a b c c' : Nat → Int32) : sAu (cs σ i a b c) 8 i c' = cs σ i a b c' := by
  unfold cs
  rw [sA_2]
/-- a cell is put anew -/
theorem v_ch182 {i h : Nat} {x1 x2 x : Int32} (kb : Int32 → ss_M → Option ss_M) (σ : ss_M) (a b c : Nat → Int32) (hi : i < 12) (hh : h ≤ 30) : f_X5_choose_j182 (nI i) (nI h) x kb x1 x2 (cs σ i a b c) = kb (x + 1) (cs σ i (upd a h x1) (upd b h x2) (upd c h x)) := by
  have e12 : gd (nI i) 12 = true := gd_nI hi (by decide)
  have e13 : gd (nI i) 13 = true := gd_nI (by omega) (by decide)
  have e31 : gd (nI h) 31 = true := gd_nI (by omega) (by decide)
  unfold f_X5_choose_j182
  rw [if_pos e13, if_pos e31, if_pos e13, if_pos e31, nI_clamp (show i < 2 ^ 31 by omega), nI_clamp (show h < 2 ^ 31 by omega), cs_6, cs_u6, cs_7, cs_u7, ss_let, if_pos e12, if_pos e31]
  unfold f_X5_choose_j212
  rw [cs_8, cs_u8]
/-- what an option comes to -/
theorem relC_opt {m t j sc : Nat} {x y : Int32} (h : relC m t x y) (hm : m ≤ 11) (hsc : sc ≤ 57) (h0 : j = 0 → sc = 0) : (1048576 ≤ t ∧ nI 1000000 ≤ x + nI sc ∧ x = nI 1000000) ∨ (t < 1048576 ∧ ∃ c k, (if j = 0 ∨ 1048576 ≤ t then t else t + (100 * sc + 1)) = 100 * c + k ∧ c ≤ 57 * (m + 1) ∧ k ≤ m + 1 ∧ x + nI sc = nI c ∧ y + (if j = 0 then 0 else 1) = nI k) := by
  rcases h with ⟨rfl, rfl⟩ | ⟨c, k, rfl, hc, hk, rfl, rfl⟩
  · exact Or.inl ⟨Nat.le_refl _, by rw [nI_add]; exact nI_le (by omega) (by omega), rfl⟩
  · refine Or.inr ⟨by omega, ?_⟩
    by_cases q : j = 0
    · refine ⟨c, k, by rw [if_pos (Or.inl q)], by omega, by omega, by rw [nI_add, h0 q]; rfl, ?_⟩
      rw [if_pos q]
      exact nI_add k 0
    · refine ⟨c + sc, k + 1, by rw [if_neg (by omega)]; omega, by omega, by omega, nI_add _ _, ?_⟩
      rw [if_neg q]
      exact nI_add k 1
theorem ox_m1 {j : Nat} (h : j ≤ 7) : ox j = -1 ↔ j = 0 := by
  cases j with
  | zero => exact ⟨fun _ => rfl, fun _ => rfl⟩
  | succ j => rw [ox_s]; exact ⟨fun q => absurd q (nm1 (by omega)), fun q => by omega⟩
/-- one option -/
theorem v_ch47 {n0 m i h b j M : Nat} {e : Bool} {g : pPg} {σ : ss_M} {kd : Int32} (T : Nat → Nat) (kb : Int32 → ss_M → Option ss_M) (hn : n0 ≤ 1000) (hg : gOk n0 g) (hL : LAY σ) (hc : cPg σ 0 g) (hi : i < g.1.2.2.1) (hm : m ≤ 11) (hb : b ≤ 30) (hhb : h ≤ b) (hl : g.2.1 i ≤ h) (hj : j ≤ 6) (hkd : kd = chK g i j) (hT : ∀ x, x ≤ b → relC m (T x) (sA σ 6 (i + 1) x) (sA σ 7 (i + 1) x)) (a1 a2 a3 : Nat → Int32) (hM : relC (m + 1) M (a1 h) (a2 h)) : ∃ a1' a2' a3', f_X5_choose_j47 0 (nI i) (nI h) (nI b) (if e = true ∧ i + 1 = g.1.2.2.1 then 1 else 0) (ox j) kb kd (cs σ i a1 a2 a3) = kb (ox (j + 1)) (cs σ i a1' a2' a3') ∧ relC (m + 1) (if chO g b e T i h j < M then chO g b e T i h j else M) (a1' h) (a2' h) ∧ (a3' h = if chO g b e T i h j < M then ox j else a3 h) ∧ ∀ x, x ≠ h → a1' x = a1 x ∧ a2' x = a2 x ∧ a3' x = a3 x := by
  have h12 := hg.2.2.1
  have hc1 : cPg (cs σ i a1 a2 a3) 0 g := hc.same hL (by decide) hg (cs_q hL).2
  have hk := chK_ok (j := j) hg hi hj
  have e12 : gd (nI i) 12 = true := gd_nI (by omega) (by decide)
  have e13 : gd (nI i) 13 = true := gd_nI (by omega) (by decide)
  have f13 : gd (nI (i + 1)) 13 = true := gd_nI (by omega) (by decide)
  have e31 : gd (nI h) 31 = true := gd_nI (by omega) (by decide)
  have hct := spCost_le (ox j) (P := g.1.2.1) (K := g.2.2.2.1.2.1) hg.2.1.2
  have hMt : M ≤ 1048576 := by
    rcases hM with ⟨rfl, _⟩ | ⟨c, k, rfl, q1, q2, _⟩
    · exact Nat.le_refl _
    · omega
  obtain ⟨G, hG⟩ : ∃ G, G = spGive (chK g i j) (h - g.2.1 i) b := ⟨_, rfl⟩
  have hGb : G ≤ b := by rw [hG]; exact spGive_le (by omega)
  have G31 : gd (nI G) 31 = true := gd_nI (by omega) (by decide)
  have s0 : j = 0 → spCost (ox j) g.1.2.1 g.2.2.2.1.2.1 = 0 := fun q => by rw [q]; rfl
  have keep : ∃ a1' a2' a3', kb (ox (j + 1)) (cs σ i a1 a2 a3) = kb (ox (j + 1)) (cs σ i a1' a2' a3') ∧ (M ≤ chO g b e T i h j → relC (m + 1) (if chO g b e T i h j < M then chO g b e T i h j else M) (a1' h) (a2' h) ∧ (a3' h = if chO g b e T i h j < M then ox j else a3 h) ∧ ∀ x, x ≠ h → a1' x = a1 x ∧ a2' x = a2 x ∧ a3' x = a3 x) := by
    refine ⟨a1, a2, a3, rfl, fun q => ?_⟩
    rw [if_neg (by omega), if_neg (by omega)]
    exact ⟨hM, rfl, fun x _ => ⟨rfl, rfl, rfl⟩⟩
  have E : f_X5_choose_j47 0 (nI i) (nI h) (nI b) (if e = true ∧ i + 1 = g.1.2.2.1 then 1 else 0) (ox j) kb kd (cs σ i a1 a2 a3) = f_X5_choose_j108 (nI i) (nI h) (if e = true ∧ i + 1 = g.1.2.2.1 then 1 else 0) (ox j) kb (chK g i j) (nI G) (cs σ i a1 a2 a3) (sA σ 6 (i + 1) G + nI (spCost (ox j) g.1.2.1 g.2.2.2.1.2.1)) (if j = 0 then 0 else 1) (cs σ i a1 a2 a3) := by
    unfold f_X5_choose_j47
    rw [if_pos e12, nI_clamp (show i < 2 ^ 31 by omega), hc1.2.1 i hi, nIs hl, hkd, v_give (by omega) (by omega), ss_bd_e, nIa1, if_pos f13, ← hG, if_pos G31, v_costOf hn hg hc1, ss_bd_e, if_pos f13, if_pos G31, nI_clamp (show i + 1 < 2 ^ 31 by omega), nI_clamp (show G < 2 ^ 31 by omega), cs_n _ _ _ _ _ (Or.inr (by omega))]
    by_cases q : j = 0
    · rw [if_pos ((ox_m1 (by omega)).mpr q), if_pos q]
    · rw [if_neg (fun z => q ((ox_m1 (by omega)).mp z)), if_neg q]
  rw [E]
  have rT := relC_opt (j := j) (hT G hGb) hm hct s0
  have oT : chT g b T i h j = T G := by unfold chT; rw [hG]
  have bgt : f_X5_choose_j212 (ox j) kb (cs σ i a1 a2 a3) = kb (ox (j + 1)) (cs σ i a1 a2 a3) := by
    unfold f_X5_choose_j212
    rw [ox_1]
  have out : ∀ (s : Int32) (x1 x2 : Int32), M ≤ chO g b e T i h j → f_X5_choose_j155 (nI i) (nI h) (if e = true ∧ i + 1 = g.1.2.2.1 then 1 else 0) (ox j) kb (chK g i j) x1 x2 s (cs σ i a1 a2 a3) = kb (ox (j + 1)) (cs σ i a1 a2 a3) → ∃ a1' a2' a3', f_X5_choose_j155 (nI i) (nI h) (if e = true ∧ i + 1 = g.1.2.2.1 then 1 else 0) (ox j) kb (chK g i j) x1 x2 s (cs σ i a1 a2 a3) = kb (ox (j + 1)) (cs σ i a1' a2' a3') ∧ relC (m + 1) (if chO g b e T i h j < M then chO g b e T i h j else M) (a1' h) (a2' h) ∧ (a3' h = if chO g b e T i h j < M then ox j else a3 h) ∧ ∀ x, x ≠ h → a1' x = a1 x ∧ a2' x = a2 x ∧ a3' x = a3 x := by
    intro s x1 x2 q z
    obtain ⟨a1', a2', a3', k1, k2⟩ := keep
    exact ⟨a1', a2', a3', z.trans k1, k2 q⟩
  have no0 : ∀ x1 x2, f_X5_choose_j155 (nI i) (nI h) (if e = true ∧ i + 1 = g.1.2.2.1 then 1 else 0) (ox j) kb (chK g i j) x1 x2 0 (cs σ i a1 a2 a3) = kb (ox (j + 1)) (cs σ i a1 a2 a3) := by
    intro x1 x2
    unfold f_X5_choose_j155
    rw [bgt]
    split
    · rfl
    · rw [if_pos rfl]
  -- whichever of the two doors: 108 comes to 155 with a flag
  have D : ∃ s : Int32, f_X5_choose_j108 (nI i) (nI h) (if e = true ∧ i + 1 = g.1.2.2.1 then 1 else 0) (ox j) kb (chK g i j) (nI G) (cs σ i a1 a2 a3) (sA σ 6 (i + 1) G + nI (spCost (ox j) g.1.2.1 g.2.2.2.1.2.1)) (if j = 0 then 0 else 1) (cs σ i a1 a2 a3) = f_X5_choose_j155 (nI i) (nI h) (if e = true ∧ i + 1 = g.1.2.2.1 then 1 else 0) (ox j) kb (chK g i j) (sA σ 6 (i + 1) G + nI (spCost (ox j) g.1.2.1 g.2.2.2.1.2.1)) (sA σ 7 (i + 1) G + (if j = 0 then 0 else 1)) s (cs σ i a1 a2 a3) ∧ (s = 0 ∨ s = 1) ∧ (s = 1 ↔ (sA σ 6 (i + 1) G + nI (spCost (ox j) g.1.2.1 g.2.2.2.1.2.1) < a1 h ∨ (sA σ 6 (i + 1) G + nI (spCost (ox j) g.1.2.1 g.2.2.2.1.2.1) = a1 h ∧ ¬ a2 h ≤ sA σ 7 (i + 1) G + (if j = 0 then 0 else 1)))) := by
    unfold f_X5_choose_j108 f_X5_choose_j150 f_X5_choose_j154
    rw [if_pos e13, if_pos e31, if_pos e13, if_pos e31, if_pos e13, if_pos e31, nIa1, nI_clamp (show i < 2 ^ 31 by omega), nI_clamp (show h < 2 ^ 31 by omega), nI_clamp (show i + 1 < 2 ^ 31 by omega), nI_clamp (show G < 2 ^ 31 by omega), cs_6, cs_7, cs_n _ _ _ _ _ (Or.inr (by omega))]
    by_cases q1 : sA σ 6 (i + 1) G + nI (spCost (ox j) g.1.2.1 g.2.2.2.1.2.1) < a1 h
    · rw [if_pos q1]
      exact ⟨1, rfl, Or.inr rfl, fun _ => Or.inl q1, fun _ => rfl⟩
    · rw [if_neg q1]
      by_cases q2 : sA σ 6 (i + 1) G + nI (spCost (ox j) g.1.2.1 g.2.2.2.1.2.1) = a1 h
      · rw [if_pos q2]
        by_cases q3 : a2 h ≤ sA σ 7 (i + 1) G + (if j = 0 then 0 else 1)
        · rw [if_pos q3]
          exact ⟨0, rfl, Or.inl rfl, fun z => absurd z (by decide), fun z => z.elim (fun y => absurd y q1) (fun y => absurd q3 y.2)⟩
        · rw [if_neg q3]
          exact ⟨1, rfl, Or.inr rfl, fun _ => Or.inr ⟨q2, q3⟩, fun _ => rfl⟩
      · rw [if_neg q2]
        exact ⟨0, rfl, Or.inl rfl, fun z => absurd z (by decide), fun z => z.elim (fun y => absurd y q1) (fun y => absurd y.1 q2)⟩
  obtain ⟨s, D1, D2, D3⟩ := D
  rw [D1]
  obtain ⟨x1, hx1⟩ : ∃ x1, x1 = sA σ 6 (i + 1) G + nI (spCost (ox j) g.1.2.1 g.2.2.2.1.2.1) := ⟨_, rfl⟩
  obtain ⟨x2, hx2⟩ : ∃ x2, x2 = sA σ 7 (i + 1) G + (if j = 0 then (0 : Int32) else 1) := ⟨_, rfl⟩
  rw [← hx1, ← hx2] at D3 rT ⊢
  rcases rT with ⟨t1, t2, _⟩ | ⟨t1, c, k, t2, t3, t4, t5, t6⟩
  · -- there is none by which
    have hO : M ≤ chO g b e T i h j := by
      unfold chO
      rw [if_neg (by omega), oT]
      split
      · exact hMt
      · rw [if_pos (Or.inr t1)]; omega
    refine out s x1 x2 hO ?_
    unfold f_X5_choose_j155
    rw [if_pos (show (1000000 : Int32) ≤ x1 from t2), bgt]
  · have big : ¬ (1000000 : Int32) ≤ x1 := by
      rw [t5]
      exact lit_nle (a := 1000000) (by decide) (by omega) (by omega)
    by_cases qe : (e = true ∧ i + 1 = g.1.2.2.1) ∧ spEnd (chK g i j) = false
    · have hO : M ≤ chO g b e T i h j := by
        unfold chO
        rw [if_neg (by omega), if_pos qe]
        exact hMt
      refine out s x1 x2 hO ?_
      unfold f_X5_choose_j155
      rw [if_neg big, bgt]
      split
      · rfl
      · rw [if_pos qe.1, if_neg n10, v_ends, ss_bd_e, if_pos (by rw [qe.2]; decide), bgt]
    · have hO : chO g b e T i h j = 100 * c + k := by
        unfold chO
        rw [if_neg (by omega), if_neg qe, oT]
        exact t2
      have good : s = 1 ↔ chO g b e T i h j < M := by
        rw [D3, hO, t5, t6]
        rcases hM with ⟨rfl, hM⟩ | ⟨c0, k0, rfl, q1, q2, q3, q4⟩
        · rw [hM]
          exact ⟨fun _ => by omega, fun _ => Or.inl (nI_lt (by omega) (by omega))⟩
        · rw [q3, q4, nI_ltI (by omega) (by omega), nI_eq (by omega) (by omega), nI_leI (by omega) (by omega)]
          omega
      rcases D2 with rfl | rfl
      · refine out 0 x1 x2 ?_ (no0 x1 x2)
        have : ¬ chO g b e T i h j < M := fun z => absurd (good.mpr z) (by decide)
        omega
      · have lt := good.mp rfl
        refine ⟨upd a1 h x1, upd a2 h x2, upd a3 h (ox j), ?_, ?_, ?_, fun x hx => ⟨upd_n hx, upd_n hx, upd_n hx⟩⟩
        · unfold f_X5_choose_j155
          rw [if_neg big, if_neg n10]
          by_cases z : e = true ∧ i + 1 = g.1.2.2.1
          · have ze : spEnd (chK g i j) = true := by
              cases y : spEnd (chK g i j)
              · exact absurd ⟨z, y⟩ qe
              · rfl
            rw [if_pos z, if_neg n10, v_ends, ss_bd_e, if_pos ze, if_neg n10, v_ch182 _ _ _ _ _ (by omega) (by omega), ox_1]
          · rw [if_neg z, if_pos rfl, v_ch182 _ _ _ _ _ (by omega) (by omega), ox_1]
        · rw [if_pos lt, upd_m, upd_m, hO]
          exact Or.inr ⟨c, k, rfl, t3, t4, t5, t6⟩
        · rw [if_pos lt, upd_m]
