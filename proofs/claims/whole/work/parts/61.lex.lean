/-! read: tokens -/
def rnE (t : Nat → Int32) (lo hi : Int32) : Nat → Nat → Nat
  | 0, i => i
  | m + 1, i => if lo ≤ t i ∧ t i ≤ hi then rnE t lo hi m (i + 1) else i
def rE (t : Nat → Int32) (T : Nat) (lo hi : Int32) (i : Nat) : Nat := rnE t lo hi (T - i) i
theorem rE_in {t : Nat → Int32} {T i : Nat} {lo hi : Int32} (h : i < T) (q : lo ≤ t i ∧ t i ≤ hi) : rE t T lo hi i = rE t T lo hi (i + 1) := by
  unfold rE
  obtain ⟨m, hm⟩ : ∃ m, T - i = m + 1 := ⟨T - i - 1, by omega⟩
  have hm' : T - (i + 1) = m := by omega
  rw [hm, hm']
  show (if lo ≤ t i ∧ t i ≤ hi then rnE t lo hi m (i + 1) else i) = _
  rw [if_pos q]
theorem rE_out {t : Nat → Int32} {T i : Nat} {lo hi : Int32} (q : ¬ (lo ≤ t i ∧ t i ≤ hi)) : rE t T lo hi i = i := by
  unfold rE
  cases T - i with
  | zero => rfl
  | succ m =>
    show (if lo ≤ t i ∧ t i ≤ hi then rnE t lo hi m (i + 1) else i) = _
    rw [if_neg q]
theorem rE_end {t : Nat → Int32} {T i : Nat} {lo hi : Int32} (h : T ≤ i) : rE t T lo hi i = i := by
  unfold rE
  have : T - i = 0 := by omega
  rw [this]
  rfl
theorem rE_ge (t : Nat → Int32) (T : Nat) (lo hi : Int32) : ∀ m i, T ≤ i + m → i ≤ rE t T lo hi i
  | 0, i, h => by rw [rE_end (by omega)]; exact Nat.le_refl _
  | m + 1, i, h => by
    by_cases q : i < T ∧ (lo ≤ t i ∧ t i ≤ hi)
    · rw [rE_in q.1 q.2]
      have := rE_ge t T lo hi m (i + 1) (by omega)
      omega
    · by_cases z : i < T
      · rw [rE_out (fun y => q ⟨z, y⟩)]; exact Nat.le_refl _
      · rw [rE_end (by omega)]; exact Nat.le_refl _
theorem rE_le (t : Nat → Int32) (T : Nat) (lo hi : Int32) : ∀ m i, i + m = T → rE t T lo hi i ≤ T
  | 0, i, h => by rw [rE_end (by omega)]; omega
  | m + 1, i, h => by
    by_cases q : lo ≤ t i ∧ t i ≤ hi
    · rw [rE_in (by omega) q]
      exact rE_le t T lo hi m (i + 1) (by omega)
    · rw [rE_out q]; omega
theorem rE_stop (t : Nat → Int32) (T : Nat) (lo hi : Int32) : ∀ m i, i + m = T → rE t T lo hi i < T → ¬ (lo ≤ t (rE t T lo hi i) ∧ t (rE t T lo hi i) ≤ hi)
  | 0, i, h, z => by rw [rE_end (by omega)] at z; omega
  | m + 1, i, h, z => by
    by_cases q : lo ≤ t i ∧ t i ≤ hi
    · rw [rE_in (by omega) q] at z ⊢
      exact rE_stop t T lo hi m (i + 1) (by omega) z
    · rw [rE_out q]; exact q
theorem rE_all (t : Nat → Int32) (T : Nat) (lo hi : Int32) : ∀ m i, i + m = T → ∀ j, i ≤ j → j < rE t T lo hi i → lo ≤ t j ∧ t j ≤ hi
  | 0, i, h, j, h1, h2 => by rw [rE_end (by omega)] at h2; omega
  | m + 1, i, h, j, h1, h2 => by
    by_cases q : lo ≤ t i ∧ t i ≤ hi
    · rw [rE_in (by omega) q] at h2
      by_cases e : j = i
      · rw [e]; exact q
      · exact rE_all t T lo hi m (i + 1) (by omega) j (by omega) h2
    · rw [rE_out q] at h2; omega
theorem rE_id {t : Nat → Int32} {T i : Nat} {lo hi : Int32} (h : i ≤ T) : rE t T lo hi (rE t T lo hi i) = rE t T lo hi i := by
  by_cases q : rE t T lo hi i < T
  · exact rE_out (rE_stop t T lo hi (T - i) i (by omega) q)
  · exact rE_end (by omega)
/-- the text, on either side -/
def tX (t : Nat → Int32) (T : Nat) (σ : ss_M) : Prop := sG σ 8 0 = nI T ∧ ∀ j, j < T → sA σ 11 0 j = t j
def tY (t : Nat → Int32) (T : Nat) (τ : ss_M) : Prop := sG τ 23 0 = nI T ∧ ∀ j, j < T → sA τ 21 0 j = t j
theorem v_run {t : Nat → Int32} {T : Nat} {lo hi : Int32} {σ : ss_M} (hT : T ≤ 150) (hx : tX t T σ) : ∀ m i : Nat, i + m = T → ∀ n, m < n → f_X6_runEnd_L3 lo hi n (nI i) σ = some (nI (rE t T lo hi i), σ) := by
  intro m
  induction m with
  | zero =>
    intro i hi' n hn
    obtain ⟨n', rfl⟩ : ∃ n', n = n' + 1 := ⟨n - 1, by omega⟩
    rw [f_X6_runEnd_L3, hx.1, if_pos (nI_le (by omega) (by omega)), rE_end (by omega)]
  | succ m ih =>
    intro i hi' n hn
    obtain ⟨n', rfl⟩ : ∃ n', n = n' + 1 := ⟨n - 1, by omega⟩
    have e150 : gd (nI i) 150 = true := gd_nI (by omega) (by decide)
    rw [f_X6_runEnd_L3, hx.1, if_neg (lit_nle (by omega) (by omega) (by omega)), if_pos e150, if_pos e150, nI_clamp (by omega), hx.2 i (by omega)]
    by_cases q : lo ≤ t i ∧ t i ≤ hi
    · rw [if_neg (Int32.not_lt.mpr q.1), if_neg (Int32.not_lt.mpr q.2), nIa1, rE_in (by omega) q]
      exact ih (i + 1) (by omega) n' (by omega)
    · rw [rE_out q]
      by_cases z : t i < lo
      · rw [if_pos z]
      · rw [if_neg z, if_pos (Int32.not_le.mp fun y => q ⟨Int32.not_lt.mp z, y⟩)]
theorem v_runEnd {t : Nat → Int32} {T i : Nat} {lo hi : Int32} {σ : ss_M} (hT : T ≤ 150) (hx : tX t T σ) (hi' : i ≤ T) : f_X6_runEnd (nI i) lo hi σ = some (nI (rE t T lo hi i), σ) := v_run hT hx (T - i) i (by omega) FU (FU_gt (by omega))
theorem sG_2 (σ : ss_M) (f o : Nat) (a b : Int32) : sGu (sGu σ f o a) f o b = sGu σ f o b := by
  obtain ⟨x, r⟩ := σ
  unfold sGu
  refine Prod.ext ?_ rfl
  funext f' o'
  by_cases h : f' = f ∧ o' = o
  · show (if f' = f ∧ o' = o then b else _) = if f' = f ∧ o' = o then b else _
    rw [if_pos h, if_pos h]
  · show (if f' = f ∧ o' = o then b else if f' = f ∧ o' = o then a else x f' o') = if f' = f ∧ o' = o then b else x f' o'
    rw [if_neg h, if_neg h, if_neg h]
theorem ex_sG (σ : ss_M) (f o : Nat) : sGu σ f o (sG σ f o) = σ := by
  obtain ⟨x, r⟩ := σ
  unfold sGu sG
  refine Prod.ext ?_ rfl
  funext f' o'
  by_cases h : f' = f ∧ o' = o
  · show (if f' = f ∧ o' = o then x f o else x f' o') = x f' o'
    rw [if_pos h, h.1, h.2]
  · show (if f' = f ∧ o' = o then x f o else x f' o') = x f' o'
    rw [if_neg h]
theorem is32 (x : Int32) : x = 32 ↔ (32 : Int32) ≤ x ∧ x ≤ 32 := ⟨fun h => by rw [h]; exact ⟨Int32.le_refl _, Int32.le_refl _⟩, fun h => Int32.le_antisymm h.2 h.1⟩
theorem w_skip_L {t : Nat → Int32} {T : Nat} {τ : ss_M} (hT : T ≤ 150) (hy : tY t T τ) : ∀ m i : Nat, i + m = T → ∀ n, m < n → f_X8_skip_L0 n (sGu τ 24 0 (nI i)) = some (sGu τ 24 0 (nI (rE t T 32 32 i))) := by
  intro m
  induction m with
  | zero =>
    intro i hi' n hn
    obtain ⟨n', rfl⟩ : ∃ n', n = n' + 1 := ⟨n - 1, by omega⟩
    rw [f_X8_skip_L0]
    unfold f_X8_here
    rw [sG_m, sG_n _ _ (by omega), hy.1, if_pos (nI_le (by omega) (by omega)), ss_bd_e, if_neg (by decide), rE_end (by omega)]
  | succ m ih =>
    intro i hi' n hn
    obtain ⟨n', rfl⟩ : ∃ n', n = n' + 1 := ⟨n - 1, by omega⟩
    have e150 : gd (nI i) 150 = true := gd_nI (by omega) (by decide)
    rw [f_X8_skip_L0]
    unfold f_X8_here
    rw [sG_m, sG_n _ _ (by omega), hy.1, if_neg (lit_nle (by omega) (by omega) (by omega)), if_pos e150, nI_clamp (by omega), sA_G, hy.2 i (by omega), ss_bd_e]
    by_cases q : t i = 32
    · rw [if_pos q, sG_m, nIa1, sG_2, rE_in (by omega) ((is32 _).mp q)]
      exact ih (i + 1) (by omega) n' (by omega)
    · rw [if_neg q, rE_out (fun z => q ((is32 _).mpr z))]
theorem w_skip {t : Nat → Int32} {T i : Nat} {τ : ss_M} (hT : T ≤ 150) (hy : tY t T τ) (hi : i ≤ T) (h : sG τ 24 0 = nI i) : f_X8_skip τ = some (sGu τ 24 0 (nI (rE t T 32 32 i))) := by
  have e := w_skip_L hT hy (T - i) i (by omega) FU (FU_gt (by omega))
  have e1 := ex_sG τ 24 0
  rw [h] at e1
  rw [e1] at e
  exact e
/-- figures as a number -/
def vlF (t : Nat → Int32) (q : Nat) : Nat → Int32
  | 0 => 0
  | n + 1 => 10 * vlF t q n + t (q + n) - 48
def mt (t : Nat → Int32) (q k : Nat) : Nat → Nat → Bool
  | 0, _ => true
  | m + 1, i => decide (t (q + i) = sC k i) && mt t q k m (i + 1)
def wrd (t : Nat → Int32) (q b : Nat) : Int32 := if b - q = 4 ∧ mt t q 0 4 0 = true then 1 else if b - q = 4 ∧ mt t q 1 4 0 = true then 2 else if b - q = 4 ∧ mt t q 2 4 0 = true then 3 else 6
def isL (x : Int32) : Prop := 97 ≤ x ∧ x ≤ 122
def isF (x : Int32) : Prop := 48 ≤ x ∧ x ≤ 57
theorem LF {x : Int32} (h : isF x) : ¬ isL x := fun z => absurd (Int32.le_trans z.1 h.2) (by decide)
/-- behind the token at q -/
def tkB (t : Nat → Int32) (T q : Nat) : Nat := if 97 ≤ t q ∧ t q ≤ 122 then rE t T 97 122 q else if 48 ≤ t q ∧ t q ≤ 57 then rE t T 48 57 q else q + 1
/-- which token stands at q -/
def tkK (t : Nat → Int32) (T q : Nat) : Int32 := if T ≤ q then 0 else if 97 ≤ t q ∧ t q ≤ 122 then wrd t q (rE t T 97 122 q) else if 48 ≤ t q ∧ t q ≤ 57 then (if rE t T 48 57 q - q ≤ 2 then 4 else 6) else if t q = 59 then 5 else 6
/-- only the reader's registers change -/
def lxE (σ σ' : ss_M) : Prop := σ'.2 = σ.2 ∧ ∀ f o, ¬ ((10 ≤ f ∧ f ≤ 13) ∧ o = 0) → sG σ' f o = sG σ f o
theorem lxE.tr {a b c : ss_M} (h : lxE a b) (k : lxE b c) : lxE a c := ⟨k.1.trans h.1, fun f o z => (k.2 f o z).trans (h.2 f o z)⟩
theorem lxE.rf (σ : ss_M) : lxE σ σ := ⟨rfl, fun _ _ _ => rfl⟩
theorem lxE.s {a b : ss_M} {f : Nat} {v : Int32} (h : lxE a b) (hf : 10 ≤ f ∧ f ≤ 13) : lxE a (sGu b f 0 v) := ⟨h.1, fun f' o z => by rw [sG_n _ _ (by omega)]; exact h.2 f' o z⟩
theorem lxE.A {a b : ss_M} (h : lxE a b) : sA b = sA a := by unfold sA; rw [h.1]
theorem lxE.tX {a b : ss_M} {t : Nat → Int32} {T : Nat} (h : lxE a b) (k : tX t T a) : tX t T b := ⟨(h.2 8 0 (by omega)).trans k.1, fun j hj => by rw [h.A]; exact k.2 j hj⟩
theorem lxE.q {a b : ss_M} (hL : LAY a) (h : lxE a b) : QC a b := by
  have hA := h.A
  have hR : sR b = sR a := by unfold sR; rw [h.1]
  have hl : sL b = sL a := by unfold sL; rw [h.1]
  have P : ∀ p, pgE p a b := fun p => ⟨fun f h1 h2 => h.2 f p (by omega), by rw [hA], by rw [hA], by rw [hR], fun k _ => ⟨h.2 0 k (by omega), h.2 1 k (by omega), by rw [hA], by rw [hA]⟩⟩
  exact ⟨⟨by unfold LAY; rw [hR]; exact hL, fun p _ _ => P p, ⟨h.2 8 0 (by omega), by rw [hA]⟩, ⟨by rw [hl], by rw [hl]⟩, ⟨h.2 14 0 (by omega), h.2 15 0 (by omega), h.2 16 0 (by omega)⟩, by rw [hA]⟩, P 0⟩
theorem v_isHere_L {t : Nat → Int32} {T q k : Nat} {σ : ss_M} (hT : T ≤ 150) (hx : tX t T σ) (hp : sG σ 12 0 = nI q) (hq : q + 4 ≤ T) : ∀ m i : Nat, i + m = 4 → ∀ n, m < n → f_X6_isHere_L20 k n (nI i) σ = some (if mt t q k m i = true then 1 else 0, σ) := by
  intro m
  induction m with
  | zero =>
    intro i hi n hn
    obtain ⟨n', rfl⟩ : ∃ n', n = n' + 1 := ⟨n - 1, by omega⟩
    have : i = 4 := by omega
    subst this
    rw [f_X6_isHere_L20, if_pos (by decide)]
    rfl
  | succ m ih =>
    intro i hi n hn
    obtain ⟨n', rfl⟩ : ∃ n', n = n' + 1 := ⟨n - 1, by omega⟩
    rw [f_X6_isHere_L20, if_neg (lnle 4 4 (by omega)), hp, nI_add, if_pos (gd_nI (by omega) (by decide)), if_pos (gd_nI (by omega) (by decide)), nI_clamp (by omega), nI_clamp (by omega), hx.2 _ (by omega), nIa1]
    show _ = some (if (decide (t (q + i) = sC k i) && mt t q k m (i + 1)) = true then 1 else 0, σ)
    by_cases z : t (q + i) = sC k i
    · rw [if_pos z, ih (i + 1) (by omega) n' (by omega)]
      simp [z]
    · rw [if_neg z]
      simp [z]
theorem v_isHere {t : Nat → Int32} {T q b k : Nat} {σ : ss_M} (hT : T ≤ 150) (hx : tX t T σ) (hp : sG σ 12 0 = nI q) (hb : sG σ 13 0 = nI b) (hqb : q ≤ b) (hbT : b ≤ T) : f_X6_isHere k σ = some (if b - q = 4 ∧ mt t q k 4 0 = true then 1 else 0, σ) := by
  unfold f_X6_isHere
  rw [hp, hb, nIs hqb]
  by_cases z : b - q = 4
  · rw [if_pos (by rw [z]; rfl), show (0 : Int32) = nI 0 from rfl, v_isHere_L hT hx hp (by omega) 4 0 rfl FU (FU_gt (by decide))]
    simp [z]
    rfl
  · rw [if_neg (show ¬ nI (b - q) = (4 : Int32) from fun y => z ((nI_eq (b := 4) (by omega) (by decide)).mp y)), if_neg (fun y => z y.1)]
theorem v_wordHere {t : Nat → Int32} {T q b : Nat} {σ : ss_M} (hT : T ≤ 150) (hx : tX t T σ) (hp : sG σ 12 0 = nI q) (hb : sG σ 13 0 = nI b) (hqb : q ≤ b) (hbT : b ≤ T) : f_X6_wordHere σ = some (wrd t q b, σ) := by
  unfold f_X6_wordHere wrd
  rw [v_isHere hT hx hp hb hqb hbT, ss_bd_e]
  by_cases z0 : b - q = 4 ∧ mt t q 0 4 0 = true
  · rw [if_pos z0, if_pos z0, if_neg n10]
  · rw [if_neg z0, if_neg z0, if_pos rfl, v_isHere hT hx hp hb hqb hbT, ss_bd_e]
    by_cases z1 : b - q = 4 ∧ mt t q 1 4 0 = true
    · rw [if_pos z1, if_pos z1, if_neg n10]
    · rw [if_neg z1, if_neg z1, if_pos rfl, v_isHere hT hx hp hb hqb hbT, ss_bd_e]
      by_cases z2 : b - q = 4 ∧ mt t q 2 4 0 = true
      · rw [if_pos z2, if_pos z2, if_neg n10]
      · rw [if_neg z2, if_neg z2, if_pos rfl]
theorem v_num_L {t : Nat → Int32} {T q b : Nat} {σ : ss_M} (hT : T ≤ 150) (hx : tX t T σ) (hb : sG σ 13 0 = nI b) (hbT : b ≤ T) : ∀ m i : Nat, q + i + m = b → ∀ n, m < n → f_X6_numberHere_L26 n (nI (q + i)) (sGu σ 11 0 (vlF t q i)) = some (4, sGu σ 11 0 (vlF t q (i + m))) := by
  intro m
  induction m with
  | zero =>
    intro i hi n hn
    obtain ⟨n', rfl⟩ : ∃ n', n = n' + 1 := ⟨n - 1, by omega⟩
    rw [f_X6_numberHere_L26, sG_n _ _ (by omega), hb, if_pos (nI_le (by omega) (by omega))]
    rfl
  | succ m ih =>
    intro i hi n hn
    obtain ⟨n', rfl⟩ : ∃ n', n = n' + 1 := ⟨n - 1, by omega⟩
    have h := ih (i + 1) (by omega) n' (by omega)
    have e : i + 1 + m = i + (m + 1) := by omega
    rw [e] at h
    rw [f_X6_numberHere_L26, sG_n _ _ (by omega), hb, if_neg (lit_nle (by omega) (by omega) (by omega)), if_pos (gd_nI (by omega) (by decide)), nI_clamp (by omega), sG_m, sG_2, sA_G, hx.2 _ (by omega), nIa1]
    exact h
theorem v_numberHere {t : Nat → Int32} {T q b : Nat} {σ : ss_M} (hT : T ≤ 150) (hx : tX t T σ) (hp : sG σ 12 0 = nI q) (hb : sG σ 13 0 = nI b) (hqb : q ≤ b) (hbT : b ≤ T) : f_X6_numberHere σ = some (if b - q ≤ 2 then 4 else 6, if b - q ≤ 2 then sGu σ 11 0 (vlF t q (b - q)) else σ) := by
  unfold f_X6_numberHere
  rw [hp, hb, nIs hqb]
  by_cases z : b - q ≤ 2
  · have e := v_num_L hT hx hb hbT (q := q) (b - q) 0 (by omega) FU (FU_gt (by omega))
    rw [Nat.zero_add] at e
    rw [if_pos (rle 2 2 z), if_pos z, if_pos z, sG_n _ _ (by omega), hp]
    exact e
  · rw [if_neg (show ¬ nI (b - q) ≤ (2 : Int32) from lit_nle (i := 2) (by omega) (by decide) (by omega)), if_neg z, if_neg z]
/-- the class stands at the token at q -/
def Lx (t : Nat → Int32) (T q : Nat) (σ : ss_M) : Prop := q ≤ T ∧ rE t T 32 32 q = q ∧ tX t T σ ∧ sG σ 12 0 = nI q ∧ sG σ 10 0 = tkK t T q ∧ (q < T → sG σ 13 0 = nI (tkB t T q)) ∧ (tkK t T q = 4 → sG σ 11 0 = vlF t q (tkB t T q - q))
theorem wrd_r (t : Nat → Int32) (q b : Nat) : wrd t q b = 1 ∨ wrd t q b = 2 ∨ wrd t q b = 3 ∨ wrd t q b = 6 := by
  unfold wrd
  split
  · exact Or.inl rfl
  · split
    · exact Or.inr (Or.inl rfl)
    · split
      · exact Or.inr (Or.inr (Or.inl rfl))
      · exact Or.inr (Or.inr (Or.inr rfl))
theorem wrd_n4 (t : Nat → Int32) (q b : Nat) : wrd t q b ≠ 4 := by
  rcases wrd_r t q b with h | h | h | h <;> rw [h] <;> decide
theorem v_next {t : Nat → Int32} {T p : Nat} {σ : ss_M} (hT : T ≤ 150) (hx : tX t T σ) (hb : sG σ 13 0 = nI p) (hpT : p ≤ T) : ∃ σ', f_X6_next σ = some σ' ∧ lxE σ σ' ∧ Lx t T (rE t T 32 32 p) σ' := by
  obtain ⟨q, hq⟩ : ∃ q, q = rE t T 32 32 p := ⟨_, rfl⟩
  have hqT : q ≤ T := by rw [hq]; exact rE_le t T 32 32 (T - p) p (by omega)
  have hid : rE t T 32 32 q = q := by rw [hq]; exact rE_id hpT
  obtain ⟨σ1, hσ1⟩ : ∃ σ1, σ1 = sGu σ 12 0 (nI q) := ⟨_, rfl⟩
  have l1 : lxE σ σ1 := by rw [hσ1]; exact (lxE.rf σ).s (by omega)
  have x1 := l1.tX hx
  have p1 : sG σ1 12 0 = nI q := by rw [hσ1, sG_m]
  rw [← hq]
  unfold f_X6_next
  rw [hb, v_runEnd hT hx hpT, ss_bd_e, ← hq, ← hσ1, p1, x1.1]
  by_cases hlt : q < T
  · have kB : ∀ c, tkK t T q = (if 97 ≤ t q ∧ t q ≤ 122 then wrd t q (rE t T 97 122 q) else if 48 ≤ t q ∧ t q ≤ 57 then (if rE t T 48 57 q - q ≤ 2 then 4 else 6) else if t q = 59 then 5 else 6) ∨ c := fun c => Or.inl (by unfold tkK; rw [if_neg (by omega)])
    have kB : tkK t T q = (if 97 ≤ t q ∧ t q ≤ 122 then wrd t q (rE t T 97 122 q) else if 48 ≤ t q ∧ t q ≤ 57 then (if rE t T 48 57 q - q ≤ 2 then 4 else 6) else if t q = 59 then 5 else 6) := by unfold tkK; rw [if_neg (by omega)]
    rw [if_pos (nI_lt hlt (by omega)), if_pos (gd_nI (show q < 150 by omega) (by decide)), nI_clamp (show q < 2 ^ 31 by omega), x1.2 q hlt]
    by_cases hl : 97 ≤ t q ∧ t q ≤ 122
    · have ge := rE_ge t T 97 122 (T - q) q (by omega)
      have le := rE_le t T 97 122 (T - q) q (by omega)
      obtain ⟨σ2, hσ2⟩ : ∃ σ2, σ2 = sGu σ1 13 0 (nI (rE t T 97 122 q)) := ⟨_, rfl⟩
      have l2 : lxE σ σ2 := by rw [hσ2]; exact l1.s (by omega)
      have p2 : sG σ2 12 0 = nI q := by rw [hσ2, sG_n _ _ (by omega)]; exact p1
      have b2 : sG σ2 13 0 = nI (rE t T 97 122 q) := by rw [hσ2, sG_m]
      rw [if_neg (Int32.not_lt.mpr hl.1), if_neg (Int32.not_lt.mpr hl.2), v_runEnd hT x1 hqT, ss_bd_e, ← hσ2, v_wordHere hT (l2.tX hx) p2 b2 ge le, ss_bd_e]
      rw [if_pos hl] at kB
      refine ⟨_, rfl, l2.s (by omega), hqT, hid, (l2.s (by omega)).tX hx, by rw [sG_n _ _ (by omega)]; exact p2, by rw [sG_m, kB], fun _ => ?_, fun z => ?_⟩
      · rw [sG_n _ _ (by omega), b2]
        unfold tkB
        rw [if_pos hl]
      · rw [kB] at z
        exact absurd z (wrd_n4 _ _ _)
    · have j : ∀ (a b : Option ss_M), (if t q < 97 then a else if 122 < t q then a else b) = a := fun a b => by
        by_cases z : t q < 97
        · rw [if_pos z]
        · rw [if_neg z, if_pos (Int32.not_le.mp fun y => hl ⟨Int32.not_lt.mp z, y⟩)]
      rw [j]
      rw [if_neg hl] at kB
      unfold f_X6_next_j82
      by_cases hf : 48 ≤ t q ∧ t q ≤ 57
      · have ge := rE_ge t T 48 57 (T - q) q (by omega)
        have le := rE_le t T 48 57 (T - q) q (by omega)
        obtain ⟨σ2, hσ2⟩ : ∃ σ2, σ2 = sGu σ1 13 0 (nI (rE t T 48 57 q)) := ⟨_, rfl⟩
        have l2 : lxE σ σ2 := by rw [hσ2]; exact l1.s (by omega)
        have p2 : sG σ2 12 0 = nI q := by rw [hσ2, sG_n _ _ (by omega)]; exact p1
        have b2 : sG σ2 13 0 = nI (rE t T 48 57 q) := by rw [hσ2, sG_m]
        have eB : tkB t T q = rE t T 48 57 q := by unfold tkB; rw [if_neg hl, if_pos hf]
        rw [if_neg (Int32.not_lt.mpr hf.1), if_neg (Int32.not_lt.mpr hf.2), p1, v_runEnd hT x1 hqT, ss_bd_e, ← hσ2, v_numberHere hT (l2.tX hx) p2 b2 ge le, ss_bd_e]
        rw [if_pos hf] at kB
        by_cases z : rE t T 48 57 q - q ≤ 2
        · rw [if_pos z, if_pos z]
          rw [if_pos z] at kB
          refine ⟨_, rfl, (l2.s (by omega)).s (by omega), hqT, hid, ((l2.s (by omega)).s (by omega)).tX hx, by rw [sG_n _ _ (by omega), sG_n _ _ (by omega)]; exact p2, by rw [sG_m, kB], fun _ => ?_, fun _ => ?_⟩
          · rw [sG_n _ _ (by omega), sG_n _ _ (by omega), b2, eB]
          · rw [sG_n _ _ (by omega), sG_m, eB]
        · rw [if_neg z, if_neg z]
          rw [if_neg z] at kB
          refine ⟨_, rfl, l2.s (by omega), hqT, hid, (l2.s (by omega)).tX hx, by rw [sG_n _ _ (by omega)]; exact p2, by rw [sG_m, kB], fun _ => ?_, fun y => ?_⟩
          · rw [sG_n _ _ (by omega), b2, eB]
          · rw [kB] at y
            exact absurd y (by decide)
      · have j2 : ∀ (a b : Option ss_M), (if t q < 48 then a else if 57 < t q then a else b) = a := fun a b => by
          by_cases z : t q < 48
          · rw [if_pos z]
          · rw [if_neg z, if_pos (Int32.not_le.mp fun y => hf ⟨Int32.not_lt.mp z, y⟩)]
        rw [j2]
        unfold f_X6_next_j121 f_X6_next_j144
        rw [if_neg hf] at kB
        have eB : tkB t T q = q + 1 := by unfold tkB; rw [if_neg hl, if_neg hf]
        rw [p1, nIa1]
        by_cases z : t q = 59
        · rw [if_pos z]
          rw [if_pos z] at kB
          refine ⟨_, rfl, (l1.s (by omega)).s (by omega), hqT, hid, ((l1.s (by omega)).s (by omega)).tX hx, by rw [sG_n _ _ (by omega), sG_n _ _ (by omega)]; exact p1, by rw [sG_m, kB], fun _ => by rw [sG_n _ _ (by omega), sG_m, eB], fun y => ?_⟩
          rw [kB] at y
          exact absurd y (by decide)
        · rw [if_neg z]
          rw [if_neg z] at kB
          refine ⟨_, rfl, (l1.s (by omega)).s (by omega), hqT, hid, ((l1.s (by omega)).s (by omega)).tX hx, by rw [sG_n _ _ (by omega), sG_n _ _ (by omega)]; exact p1, by rw [sG_m, kB], fun _ => by rw [sG_n _ _ (by omega), sG_m, eB], fun y => ?_⟩
          rw [kB] at y
          exact absurd y (by decide)
  · have hk : tkK t T q = 0 := by unfold tkK; rw [if_pos (by omega)]
    rw [if_neg (nI_nlt (by omega) (by omega))]
    refine ⟨_, rfl, l1.s (by omega), hqT, hid, (l1.s (by omega)).tX hx, by rw [sG_n _ _ (by omega)]; exact p1, by rw [sG_m, hk], fun z => absurd z hlt, fun y => ?_⟩
    rw [hk] at y
    exact absurd y (by decide)
