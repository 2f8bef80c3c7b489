/-! read: items, as the reference reads them, and both -/
theorem w_isL (x : Int32) (τ : ss_M) : f_X8_isLetter x τ = some (if 97 ≤ x ∧ x ≤ 122 then 1 else 0, τ) := by
  unfold f_X8_isLetter
  rw [w_inI, ss_bd_e]
  by_cases h : 97 ≤ x ∧ x ≤ 122
  · rw [if_pos h, if_pos b_1]
  · rw [if_neg h, if_pos b_0]
theorem w_isF (x : Int32) (τ : ss_M) : f_X8_isFigure x τ = some (if 48 ≤ x ∧ x ≤ 57 then 1 else 0, τ) := by
  unfold f_X8_isFigure
  rw [w_inI, ss_bd_e]
  by_cases h : 48 ≤ x ∧ x ≤ 57
  · rw [if_pos h, if_pos b_1]
  · rw [if_neg h, if_pos b_0]
theorem w_size_L {t : Nat → Int32} {T q : Nat} {τ : ss_M} (hT : T ≤ 150) (hy : tY t T τ) (h24 : sG τ 24 0 = nI q) : ∀ m i : Nat, q + i + m = T → ∀ n, m < n → f_X8_wordSize_L2 n (nI i) τ = some (nI (rE t T 97 122 (q + i) - q), τ) := by
  intro m
  induction m with
  | zero =>
    intro i hi n hn
    obtain ⟨n', rfl⟩ : ∃ n', n = n' + 1 := ⟨n - 1, by omega⟩
    rw [f_X8_wordSize_L2, hy.1, h24, nI_add, if_pos (nI_le (by omega) (by omega)), rE_end (by omega), Nat.add_sub_cancel_left]
  | succ m ih =>
    intro i hi n hn
    obtain ⟨n', rfl⟩ : ∃ n', n = n' + 1 := ⟨n - 1, by omega⟩
    rw [f_X8_wordSize_L2, hy.1, h24, nI_add, if_neg (lit_nle (by omega) (by omega) (by omega)), if_pos (gd_nI (by omega) (by decide)), nI_clamp (by omega), hy.2 _ (by omega), w_isL, ss_bd_e]
    by_cases z : 97 ≤ t (q + i) ∧ t (q + i) ≤ 122
    · rw [if_pos z, if_neg n10, nIa1, rE_in (by omega) z]
      exact ih (i + 1) (by omega) n' (by omega)
    · rw [if_neg z, if_pos rfl, rE_out z, Nat.add_sub_cancel_left]
theorem w_size {t : Nat → Int32} {T q : Nat} {τ : ss_M} (hT : T ≤ 150) (hy : tY t T τ) (h24 : sG τ 24 0 = nI q) (hq : q ≤ T) : f_X8_wordSize τ = some (nI (rE t T 97 122 q - q), τ) := w_size_L hT hy h24 (T - q) 0 (by omega) FU (FU_gt (by omega))
theorem w_letter {t : Nat → Int32} {T q : Nat} {τ : ss_M} (hT : T ≤ 150) (hy : tY t T τ) (h24 : sG τ 24 0 = nI q) (x : Int32) (i : Nat) (hx : x = nI i) (hi : q + i < T) : f_X8_letter x τ = some (t (q + i), τ) := by
  unfold f_X8_letter
  rw [h24, hx, nI_add, if_pos (gd_nI (by omega) (by decide)), nI_clamp (by omega), hy.2 _ hi]
theorem mt_4 (t : Nat → Int32) (q k : Nat) : mt t q k 4 0 = true ↔ (t (q + 0) = sC k 0 ∧ t (q + 1) = sC k 1 ∧ t (q + 2) = sC k 2 ∧ t (q + 3) = sC k 3) := by
  simp [mt]
theorem w_word {t : Nat → Int32} {T q : Nat} {τ : ss_M} (hT : T ≤ 150) (hy : tY t T τ) (h24 : sG τ 24 0 = nI q) (hq : q ≤ T) : f_X8_wordHere τ = some (if tkK t T q = 1 then 0 else if tkK t T q = 2 then 1 else if tkK t T q = 3 then 2 else -1, τ) := by
  unfold f_X8_wordHere
  rw [w_size hT hy h24 hq, ss_bd_e]
  by_cases hl : q < T ∧ (97 ≤ t q ∧ t q ≤ 122)
  · have hk : tkK t T q = wrd t q (rE t T 97 122 q) := by
      unfold tkK
      rw [if_neg (by omega), if_pos hl.2]
    have ge := rE_ge t T 97 122 (T - q) q (by omega)
    have le := rE_le t T 97 122 (T - q) q (by omega)
    rw [hk]
    by_cases h4 : rE t T 97 122 q - q = 4
    · rw [if_pos (by rw [h4]; rfl)]
      have l0 := w_letter hT hy h24 0 0 rfl (by omega)
      have l1 := w_letter hT hy h24 1 1 rfl (by omega)
      have l2 := w_letter hT hy h24 2 2 rfl (by omega)
      have l3 := w_letter hT hy h24 3 3 rfl (by omega)
      have S2 : ∀ c s s', c = t (q + 0) → f_X8_wordHere_j99 c s s' τ = f_X8_wordHere_j141 s s' (if mt t q 2 4 0 = true then 1 else 0) τ := by
        intro c s s' hc
        unfold f_X8_wordHere_j99 f_X8_wordHere_j140
        rw [l1, ss_bd_e, l2, ss_bd_e, l3, ss_bd_e, hc]
        have e := mt_4 t q 2
        rw [show sC 2 0 = 109 by decide, show sC 2 1 = 97 by decide, show sC 2 2 = 114 by decide, show sC 2 3 = 107 by decide] at e
        by_cases z0 : t (q + 0) = 109
        · by_cases z1 : t (q + 1) = 97
          · by_cases z2 : t (q + 2) = 114
            · by_cases z3 : t (q + 3) = 107
              · rw [if_pos z0, if_pos z1, if_pos z2, if_pos z3, if_pos (e.mpr ⟨z0, z1, z2, z3⟩)]
              · rw [if_pos z0, if_pos z1, if_pos z2, if_neg z3, if_neg (fun y => z3 (e.mp y).2.2.2)]
            · rw [if_pos z0, if_pos z1, if_neg z2, if_neg (fun y => z2 (e.mp y).2.2.1)]
          · rw [if_pos z0, if_neg z1, if_neg (fun y => z1 (e.mp y).2.1)]
        · rw [if_neg z0, if_neg (fun y => z0 (e.mp y).1)]
      have S1 : ∀ c s, c = t (q + 0) → f_X8_wordHere_j57 c s τ = f_X8_wordHere_j99 c s (if mt t q 1 4 0 = true then 1 else 0) τ := by
        intro c s hc
        unfold f_X8_wordHere_j57 f_X8_wordHere_j98
        rw [l1, ss_bd_e, l2, ss_bd_e, l3, ss_bd_e, hc]
        have e := mt_4 t q 1
        rw [show sC 1 0 = 119 by decide, show sC 1 1 = 111 by decide, show sC 1 2 = 114 by decide, show sC 1 3 = 100 by decide] at e
        by_cases z0 : t (q + 0) = 119
        · by_cases z1 : t (q + 1) = 111
          · by_cases z2 : t (q + 2) = 114
            · by_cases z3 : t (q + 3) = 100
              · rw [if_pos z0, if_pos z1, if_pos z2, if_pos z3, if_pos (e.mpr ⟨z0, z1, z2, z3⟩)]
              · rw [if_pos z0, if_pos z1, if_pos z2, if_neg z3, if_neg (fun y => z3 (e.mp y).2.2.2)]
            · rw [if_pos z0, if_pos z1, if_neg z2, if_neg (fun y => z2 (e.mp y).2.2.1)]
          · rw [if_pos z0, if_neg z1, if_neg (fun y => z1 (e.mp y).2.1)]
        · rw [if_neg z0, if_neg (fun y => z0 (e.mp y).1)]
      rw [l0, ss_bd_e]
      have S0 : (if t (q + 0) = 112 then ss_bd (f_X8_letter 1 τ) (fun r22 σ22 => if r22 = 97 then ss_bd (f_X8_letter 2 σ22) (fun r24 σ24 => if r24 = 103 then ss_bd (f_X8_letter 3 σ24) (fun r26 σ26 => if r26 = 101 then f_X8_wordHere_j57 (t (q + 0)) 1 σ26 else f_X8_wordHere_j56 (t (q + 0)) σ26) else f_X8_wordHere_j56 (t (q + 0)) σ24) else f_X8_wordHere_j56 (t (q + 0)) σ22) else f_X8_wordHere_j56 (t (q + 0)) τ) = f_X8_wordHere_j57 (t (q + 0)) (if mt t q 0 4 0 = true then 1 else 0) τ := by
        unfold f_X8_wordHere_j56
        rw [l1, ss_bd_e]
        rw [l2, ss_bd_e]
        rw [l3, ss_bd_e]
        have e := mt_4 t q 0
        rw [show sC 0 0 = 112 by decide, show sC 0 1 = 97 by decide, show sC 0 2 = 103 by decide, show sC 0 3 = 101 by decide] at e
        by_cases z0 : t (q + 0) = 112
        · by_cases z1 : t (q + 1) = 97
          · by_cases z2 : t (q + 2) = 103
            · by_cases z3 : t (q + 3) = 101
              · rw [if_pos z0, if_pos z1, if_pos z2, if_pos z3, if_pos (e.mpr ⟨z0, z1, z2, z3⟩)]
              · rw [if_pos z0, if_pos z1, if_pos z2, if_neg z3, if_neg (fun y => z3 (e.mp y).2.2.2)]
            · rw [if_pos z0, if_pos z1, if_neg z2, if_neg (fun y => z2 (e.mp y).2.2.1)]
          · rw [if_pos z0, if_neg z1, if_neg (fun y => z1 (e.mp y).2.1)]
        · rw [if_neg z0, if_neg (fun y => z0 (e.mp y).1)]
      refine S0.trans ?_
      rw [S1 _ _ rfl, S2 _ _ _ rfl]
      unfold f_X8_wordHere_j141 wrd
      cases mt t q 0 4 0 <;> cases mt t q 1 4 0 <;> cases mt t q 2 4 0 <;> simp [h4]
    · rw [if_neg (show ¬ nI (rE t T 97 122 q - q) = (4 : Int32) from fun y => h4 ((nI_eq (b := 4) (by omega) (by decide)).mp y))]
      have : wrd t q (rE t T 97 122 q) = 6 := by
        unfold wrd
        rw [if_neg (fun z => h4 z.1), if_neg (fun z => h4 z.1), if_neg (fun z => h4 z.1)]
      rw [this]
      rfl
  · have e0 : rE t T 97 122 q = q := by
      by_cases z : q < T
      · exact rE_out (fun y => hl ⟨z, y⟩)
      · exact rE_end (by omega)
    rw [e0, Nat.sub_self, if_neg (show ¬ nI 0 = (4 : Int32) by decide)]
    have k : tkK t T q = 0 ∨ tkK t T q = 4 ∨ tkK t T q = 5 ∨ tkK t T q = 6 := by
      unfold tkK
      by_cases z : T ≤ q
      · rw [if_pos z]; exact Or.inl rfl
      · rw [if_neg z, if_neg (fun y => hl ⟨by omega, y⟩)]
        split
        · split
          · exact Or.inr (Or.inl rfl)
          · exact Or.inr (Or.inr (Or.inr rfl))
        · split
          · exact Or.inr (Or.inr (Or.inl rfl))
          · exact Or.inr (Or.inr (Or.inr rfl))
    rcases k with k | k | k | k <;> rw [k] <;> rfl
theorem tk_fig {x : Int32} (h : 48 ≤ x ∧ x ≤ 57) : ¬ (97 ≤ x ∧ x ≤ 122) := fun z => absurd (Int32.le_trans z.1 h.2) (by decide)
theorem tk_4 {t : Nat → Int32} {T q : Nat} (hq : q ≤ T) : tkK t T q = 4 ↔ (1 ≤ rE t T 48 57 q - q ∧ rE t T 48 57 q - q ≤ 2) := by
  by_cases hf : q < T ∧ (48 ≤ t q ∧ t q ≤ 57)
  · have g1 : q + 1 ≤ rE t T 48 57 q := by
      rw [rE_in hf.1 hf.2]
      exact rE_ge t T 48 57 (T - (q + 1)) (q + 1) (by omega)
    unfold tkK
    rw [if_neg (by omega), if_neg (tk_fig hf.2), if_pos hf.2]
    by_cases z : rE t T 48 57 q - q ≤ 2
    · rw [if_pos z]; exact ⟨fun _ => ⟨by omega, z⟩, fun _ => rfl⟩
    · rw [if_neg z]; exact ⟨fun y => absurd y (by decide), fun y => absurd y.2 z⟩
  · have e0 : rE t T 48 57 q = q := by
      by_cases z : q < T
      · exact rE_out (fun y => hf ⟨z, y⟩)
      · exact rE_end (by omega)
    rw [e0]
    refine ⟨fun y => ?_, fun y => by omega⟩
    exfalso
    unfold tkK at y
    by_cases z : T ≤ q
    · rw [if_pos z] at y; exact absurd y (by decide)
    · rw [if_neg z] at y
      split at y
      · exact wrd_n4 _ _ _ y
      · rw [if_neg (fun x => hf ⟨by omega, x⟩)] at y
        split at y <;> exact absurd y (by decide)
theorem tk_4B {t : Nat → Int32} {T q : Nat} (hq : q ≤ T) (h : tkK t T q = 4) : tkB t T q = rE t T 48 57 q ∧ q < T ∧ q + 1 ≤ tkB t T q ∧ tkB t T q ≤ T ∧ tkB t T q ≤ q + 2 := by
  obtain ⟨h1, h2⟩ := (tk_4 hq).mp h
  have le := rE_le t T 48 57 (T - q) q (by omega)
  have hf : q < T ∧ (48 ≤ t q ∧ t q ≤ 57) := by
    by_cases z : q < T
    · refine ⟨z, ?_⟩
      apply Classical.byContradiction
      intro y
      rw [rE_out y] at h1
      omega
    · rw [rE_end (by omega)] at h1
      omega
  have e : tkB t T q = rE t T 48 57 q := by
    unfold tkB
    rw [if_neg (tk_fig hf.2), if_pos hf.2]
  exact ⟨e, hf.1, by omega, by omega, by omega⟩
theorem tk_val {t : Nat → Int32} {T q : Nat} (hq : q ≤ T) (h : tkK t T q = 4) : ∃ v, v ≤ 99 ∧ vlF t q (tkB t T q - q) = nI v := by
  obtain ⟨e, h1, h2, h3, h4⟩ := tk_4B hq h
  have al := rE_all t T 48 57 (T - q) q (by omega)
  rw [← e] at al
  obtain ⟨c, c1, c2, c3⟩ := i_mid (a := 48) (b := 57) (by omega) (al q (Nat.le_refl _) (by omega)).1 (al q (Nat.le_refl _) (by omega)).2 (by omega)
  have v1 : vlF t q 1 = nI (c - 48) := by
    show 10 * (0 : Int32) + t (q + 0) - 48 = _
    rw [Nat.add_zero, c3, show (10 : Int32) * 0 = nI 0 from rfl, nI_add, Nat.zero_add]
    exact nIs (b := 48) c1
  by_cases z : tkB t T q - q = 1
  · rw [z]
    exact ⟨c - 48, by omega, v1⟩
  · have z2 : tkB t T q - q = 2 := by omega
    obtain ⟨d, d1, d2, d3⟩ := i_mid (a := 48) (b := 57) (by omega) (al (q + 1) (by omega) (by omega)).1 (al (q + 1) (by omega) (by omega)).2 (by omega)
    rw [z2]
    refine ⟨10 * (c - 48) + d - 48, by omega, ?_⟩
    show 10 * vlF t q 1 + t (q + 1) - 48 = _
    rw [v1, d3, show (10 : Int32) = nI 10 from rfl, nIm, nI_add]
    exact nIs (b := 48) (by omega)
theorem tk_5 {t : Nat → Int32} {T q : Nat} : tkK t T q = 5 ↔ (q < T ∧ t q = 59) := by
  unfold tkK
  by_cases z : T ≤ q
  · rw [if_pos z]
    exact ⟨fun y => absurd y (by decide), fun y => absurd y.1 (by omega)⟩
  · rw [if_neg z]
    by_cases l : 97 ≤ t q ∧ t q ≤ 122
    · rw [if_pos l]
      refine ⟨fun y => ?_, fun y => ?_⟩
      · rcases wrd_r t q (rE t T 97 122 q) with h | h | h | h <;> rw [h] at y <;> exact absurd y (by decide)
      · rw [y.2] at l
        exact absurd l (by decide)
    · rw [if_neg l]
      by_cases f : 48 ≤ t q ∧ t q ≤ 57
      · rw [if_pos f]
        refine ⟨fun y => ?_, fun y => ?_⟩
        · split at y <;> exact absurd y (by decide)
        · rw [y.2] at f
          exact absurd f (by decide)
      · rw [if_neg f]
        by_cases s : t q = 59
        · rw [if_pos s]
          exact ⟨fun _ => ⟨by omega, s⟩, fun _ => rfl⟩
        · rw [if_neg s]
          exact ⟨fun y => absurd y (by decide), fun y => absurd y.2 s⟩
theorem tk_5B {t : Nat → Int32} {T q : Nat} (h : tkK t T q = 5) : q < T ∧ tkB t T q = q + 1 := by
  obtain ⟨h1, h2⟩ := tk_5.mp h
  refine ⟨h1, ?_⟩
  unfold tkB
  rw [if_neg (by rw [h2]; decide), if_neg (by rw [h2]; decide)]
theorem tk_w {t : Nat → Int32} {T q : Nat} (hq : q ≤ T) (h : tkK t T q = 1 ∨ tkK t T q = 2 ∨ tkK t T q = 3) : q < T ∧ tkB t T q = q + 4 ∧ q + 4 ≤ T := by
  have le := rE_le t T 97 122 (T - q) q (by omega)
  unfold tkK at h
  by_cases z : T ≤ q
  · rw [if_pos z] at h
    rcases h with h | h | h <;> exact absurd h (by decide)
  · rw [if_neg z] at h
    by_cases l : 97 ≤ t q ∧ t q ≤ 122
    · rw [if_pos l] at h
      have h4 : rE t T 97 122 q - q = 4 := by
        apply Classical.byContradiction
        intro n
        have : wrd t q (rE t T 97 122 q) = 6 := by
          unfold wrd
          rw [if_neg (fun z => n z.1), if_neg (fun z => n z.1), if_neg (fun z => n z.1)]
        rw [this] at h
        rcases h with h | h | h <;> exact absurd h (by decide)
      have : tkB t T q = rE t T 97 122 q := by
        unfold tkB
        rw [if_pos l]
      exact ⟨by omega, by omega, by omega⟩
    · rw [if_neg l] at h
      split at h
      · split at h <;> rcases h with h | h | h <;> exact absurd h (by decide)
      · split at h <;> rcases h with h | h | h <;> exact absurd h (by decide)
theorem w_num_L {t : Nat → Int32} {T q : Nat} {τ : ss_M} (k : Int32 → Int32 → ss_M → Option (Int32 × ss_M)) (hT : T ≤ 150) (hy : tY t T τ) (h24 : sG τ 24 0 = nI q) : ∀ m i : Nat, q + i + m = T → ∀ (n : Nat) (v : Int32), m < n → (i ≤ 2 → v = vlF t q i) → ∃ v', f_X8_number_L8 k n (nI i) v τ = k (nI (rE t T 48 57 (q + i) - q)) v' τ ∧ (rE t T 48 57 (q + i) - q ≤ 2 → v' = vlF t q (rE t T 48 57 (q + i) - q)) := by
  intro m
  induction m with
  | zero =>
    intro i hi n v hn hv
    obtain ⟨n', rfl⟩ : ∃ n', n = n' + 1 := ⟨n - 1, by omega⟩
    rw [f_X8_number_L8, hy.1, h24, nI_add, if_pos (nI_le (by omega) (by omega)), rE_end (by omega), Nat.add_sub_cancel_left]
    exact ⟨v, rfl, hv⟩
  | succ m ih =>
    intro i hi n v hn hv
    obtain ⟨n', rfl⟩ : ∃ n', n = n' + 1 := ⟨n - 1, by omega⟩
    rw [f_X8_number_L8, hy.1, h24, nI_add, if_neg (lit_nle (by omega) (by omega) (by omega)), if_pos (gd_nI (by omega) (by decide)), nI_clamp (by omega), hy.2 _ (by omega), w_isF, ss_bd_e]
    by_cases z : 48 ≤ t (q + i) ∧ t (q + i) ≤ 57
    · rw [if_pos z, if_neg n10, rE_in (by omega) z]
      unfold f_X8_number_j66
      by_cases y : 2 ≤ i
      · rw [if_pos (show (2 : Int32) ≤ nI i from nI_le (a := 2) y (by omega)), nIa1]
        exact ih (i + 1) (by omega) n' v (by omega) (fun x => by omega)
      · rw [if_neg (show ¬ (2 : Int32) ≤ nI i from lit_nle (a := 2) (by decide) (by omega) (by omega)), h24, nI_add, if_pos (gd_nI (by omega) (by decide)), nI_clamp (by omega), hy.2 _ (by omega), nIa1]
        exact ih (i + 1) (by omega) n' _ (by omega) (fun x => by rw [hv (by omega)]; rfl)
    · rw [if_neg z, if_pos rfl, rE_out z, Nat.add_sub_cancel_left]
      exact ⟨v, rfl, hv⟩
/-- the reference's reader changes these alone -/
def ryE (τ τ' : ss_M) : Prop := τ'.2 = τ.2 ∧ ∀ f o, f ≠ 24 → f ≠ 25 → sG τ' f o = sG τ f o
theorem ryE.A {a b : ss_M} (h : ryE a b) : sA b = sA a := by unfold sA; rw [h.1]
theorem ryE.tY {a b : ss_M} {t : Nat → Int32} {T : Nat} (h : ryE a b) (k : tY t T a) : tY t T b := ⟨(h.2 23 0 (by decide) (by decide)).trans k.1, fun j hj => by rw [h.A]; exact k.2 j hj⟩
theorem ryE.q {a b : ss_M} (h : ryE a b) : QM a b := by
  have hA := h.A
  have hl : sL b = sL a := by unfold sL; rw [h.1]
  exact ⟨⟨⟨h.2 23 0 (by decide) (by decide), by rw [hA]⟩, ⟨by rw [hl], by rw [hl]⟩, by rw [hA], by rw [hA]⟩, ⟨⟨h.2 _ _ (by decide) (by decide), h.2 _ _ (by decide) (by decide), h.2 _ _ (by decide) (by decide), h.2 _ _ (by decide) (by decide), h.2 _ _ (by decide) (by decide), h.2 _ _ (by decide) (by decide), h.2 _ _ (by decide) (by decide)⟩, by rw [hA], by rw [hA], by rw [hA], by rw [hA], by rw [hA]⟩⟩
theorem ryE.s {a b : ss_M} {f : Nat} {v : Int32} (h : ryE a b) (hf : f = 24 ∨ f = 25) : ryE a (sGu b f 0 v) := ⟨h.1, fun f' o h1 h2 => by rw [sG_n _ _ (by omega)]; exact h.2 f' o h1 h2⟩
theorem ryE.rf (τ : ss_M) : ryE τ τ := ⟨rfl, fun _ _ _ _ => rfl⟩
theorem w_number {t : Nat → Int32} {T p : Nat} {τ : ss_M} (hT : T ≤ 150) (hy : tY t T τ) (h24 : sG τ 24 0 = nI p) (hp : p ≤ T) : ∃ τ', f_X8_number τ = some (if tkK t T (rE t T 32 32 p) = 4 then 1 else 0, τ') ∧ ryE τ τ' ∧ sG τ' 24 0 = nI (if tkK t T (rE t T 32 32 p) = 4 then tkB t T (rE t T 32 32 p) else rE t T 32 32 p) ∧ (tkK t T (rE t T 32 32 p) = 4 → sG τ' 25 0 = vlF t (rE t T 32 32 p) (tkB t T (rE t T 32 32 p) - rE t T 32 32 p)) := by
  obtain ⟨q, hq⟩ : ∃ q, q = rE t T 32 32 p := ⟨_, rfl⟩
  have hqT : q ≤ T := by rw [hq]; exact rE_le t T 32 32 (T - p) p (by omega)
  rw [← hq]
  obtain ⟨τ1, hτ1⟩ : ∃ τ1, τ1 = sGu τ 24 0 (nI q) := ⟨_, rfl⟩
  have y1 : ryE τ τ1 := by rw [hτ1]; exact (ryE.rf τ).s (Or.inl rfl)
  have s1 : sG τ1 24 0 = nI q := by rw [hτ1, sG_m]
  obtain ⟨v', k1, k2⟩ := w_num_L f_X8_number_j73 hT (y1.tY hy) s1 (T - q) 0 (by omega) FU 0 (FU_gt (by omega)) (fun _ => rfl)
  rw [Nat.add_zero] at k1 k2
  unfold f_X8_number
  rw [w_skip hT hy hp h24, Option.bind_some, ← hq, ← hτ1]
  have e := k1
  rw [show nI 0 = (0 : Int32) from rfl] at e
  rw [e]
  unfold f_X8_number_j73
  have le := rE_le t T 48 57 (T - q) q (by omega)
  have hin : (1 ≤ nI (rE t T 48 57 q - q) ∧ nI (rE t T 48 57 q - q) ≤ (2 : Int32)) ↔ tkK t T q = 4 := by
    rw [tk_4 hqT]
    exact and_congr (nI_leI (a := 1) (by decide) (by omega)) (nI_leI (b := 2) (by omega) (by decide))
  rw [w_inI, ss_bd_e]
  by_cases z : tkK t T q = 4
  · rw [if_pos (hin.mpr z), if_pos z, if_pos z, if_neg n10]
    obtain ⟨b1, b2, b3, b4, b5⟩ := tk_4B hqT z
    refine ⟨_, rfl, (y1.s (Or.inr rfl)).s (Or.inl rfl), ?_, fun _ => ?_⟩
    · rw [sG_m, sG_n _ _ (by omega), s1, nI_add, b1]
      congr 1
      omega
    · rw [sG_n _ _ (by omega), sG_m, b1]
      exact k2 (by omega)
  · rw [if_neg (fun y => z (hin.mp y)), if_neg z, if_neg z, if_pos rfl]
    exact ⟨τ1, rfl, y1, s1, fun y => absurd y z⟩
theorem w_here {t : Nat → Int32} {T q : Nat} {τ : ss_M} (hT : T ≤ 150) (hy : tY t T τ) (h24 : sG τ 24 0 = nI q) (hq : q ≤ T) : ∃ c, f_X8_here τ = some (c, τ) ∧ (c = 59 ↔ tkK t T q = 5) := by
  unfold f_X8_here
  rw [h24, hy.1]
  by_cases z : q < T
  · rw [if_neg (lit_nle (by omega) (by omega) z), if_pos (gd_nI (by omega) (by decide)), nI_clamp (by omega), hy.2 q z]
    exact ⟨_, rfl, fun y => tk_5.mpr ⟨z, y⟩, fun y => (tk_5.mp y).2⟩
  · rw [if_pos (nI_le (by omega) (by omega))]
    exact ⟨_, rfl, fun y => absurd y (by decide), fun y => absurd (tk_5.mp y).1 z⟩
