/-! read: an item on both sides, and the whole text -/
def frK (k : Nat) (σ σ' : ss_M) : Prop := QC σ σ' ∧ sG σ' 9 0 = sG σ 9 0 ∧ ∀ c j, (c = 12 ∨ c = 13 ∨ c = 14) → j ≠ k → sA σ' c 0 j = sA σ c 0 j
theorem frK.tr {k : Nat} {a b c : ss_M} (h : frK k a b) (g : frK k b c) : frK k a c := ⟨h.1.tr g.1, g.2.1.trans h.2.1, fun x j h1 h2 => (g.2.2 x j h1 h2).trans (h.2.2 x j h1 h2)⟩
theorem frK.lx {k : Nat} {σ σ' : ss_M} (hL : LAY σ) (h : lxE σ σ') : frK k σ σ' := ⟨h.q hL, h.2 9 0 (by omega), fun c j _ _ => by rw [h.A]⟩
theorem frK.a {k c : Nat} {v : Int32} {σ : ss_M} (hL : LAY σ) (hc : c = 12 ∨ c = 13 ∨ c = 14) : frK k σ (sAu σ c 0 (upd (sA σ c 0) k v)) := ⟨QC_a hL (by omega), rfl, fun x j h1 h2 => by
  by_cases e : x = c
  · rw [e, sA_m, upd_n h2]
  · rw [sA_n _ _ (by omega)]⟩
def frR (k : Nat) (τ τ' : ss_M) : Prop := QM τ τ' ∧ ∀ y, y < 3 * k → sA τ' 22 0 y = sA τ 22 0 y
theorem frR.tr {k : Nat} {a b c : ss_M} (h : frR k a b) (g : frR k b c) : frR k a c := ⟨h.1.tr g.1, fun y hy => (g.2 y hy).trans (h.2 y hy)⟩
theorem frR.ry {k : Nat} {a b : ss_M} (h : ryE a b) : frR k a b := ⟨h.q, fun y _ => by rw [h.A]⟩
theorem frR.a {k y : Nat} {v : Int32} {τ : ss_M} (hy : 3 * k ≤ y) : frR k τ (sAu τ 22 0 (upd (sA τ 22 0) y v)) := ⟨QM_a (by omega), fun z hz => by rw [sA_m, upd_n (by omega)]⟩
theorem frR.s {k f : Nat} {v : Int32} {τ : ss_M} (hf : f = 24 ∨ f = 25 ∨ f = 26) : frR k τ (sGu τ f 0 v) := ⟨QM_s hf, fun y _ => rfl⟩
theorem QM.tY {t : Nat → Int32} {T : Nat} {a b : ss_M} (h : QM a b) (k : tY t T a) : tY t T b := ⟨h.1.1.1.trans k.1, fun j hj => by rw [h.1.1.2]; exact k.2 j hj⟩
theorem QC.tX {t : Nat → Int32} {T : Nat} {a b : ss_M} (h : QC a b) (k : tX t T a) : tX t T b := ⟨h.1.2.2.1.1.trans k.1, fun j hj => by rw [h.1.2.2.1.2]; exact k.2 j hj⟩
/-- the same item on both sides -/
def itR (σ τ : ss_M) (j : Nat) : Prop := ∃ w a b : Nat, w ≤ 2 ∧ a ≤ 99 ∧ b ≤ 99 ∧ (w = 0 ↔ j = 0) ∧ sA σ 12 0 j = nI (w + 1) ∧ sA τ 22 0 (3 * j) = nI w ∧ sA σ 13 0 j = nI a ∧ sA τ 22 0 (3 * j + 1) = nI a ∧ (w ≠ 1 → sA σ 14 0 j = nI b ∧ sA τ 22 0 (3 * j + 2) = nI b)
def itP (t : Nat → Int32) (T k q : Nat) (σ τ : ss_M) (a b : Option (Int32 × ss_M)) : Prop := ∃ (ok : Bool) (σ' τ' : ss_M) (p' : Nat), a = some (if ok = true then 1 else 0, σ') ∧ b = some (if ok = true then 1 else 0, τ') ∧ frK k σ σ' ∧ frR k τ τ' ∧ sG τ' 24 0 = nI p' ∧ p' ≤ T ∧ sG σ' 12 0 = nI (rE t T 32 32 p') ∧ (ok = true → Lx t T (rE t T 32 32 p') σ' ∧ sG τ' 26 0 = nI (k + 1) ∧ itR σ' τ' k ∧ q + 6 ≤ p')
theorem itP.tr {t : Nat → Int32} {T k q : Nat} {σ0 τ0 σ τ : ss_M} {a b : Option (Int32 × ss_M)} (h1 : frK k σ0 σ) (h2 : frR k τ0 τ) (h : itP t T k q σ τ a b) : itP t T k q σ0 τ0 a b := by
  obtain ⟨ok, σ', τ', p', e1, e2, e3, e4, e5⟩ := h
  exact ⟨ok, σ', τ', p', e1, e2, h1.tr e3, h2.tr e4, e5⟩
theorem it_end {t : Nat → Int32} {T k q p w a : Nat} {σ τ : ss_M} (hT : T ≤ 150) (hL : LAY σ) (hx : tX t T σ) (hy : tY t T τ) (h9 : sG σ 9 0 = nI k) (h26 : sG τ 26 0 = nI k) (hk : k < 70) (h13 : sG σ 13 0 = nI p) (h24 : sG τ 24 0 = nI p) (hp : p ≤ T) (hqp : q + 5 ≤ p) (hw : w ≤ 2) (hwk : w = 0 ↔ k = 0) (ha : a ≤ 99) (r1 : sA σ 12 0 k = nI (w + 1)) (r2 : sA τ 22 0 (3 * k) = nI w) (r3 : sA σ 13 0 k = nI a) (r4 : sA τ 22 0 (3 * k + 1) = nI a) (r5 : w ≠ 1 → ∃ b, b ≤ 99 ∧ sG σ 11 0 = nI b ∧ sA τ 22 0 (3 * k + 2) = nI b) : itP t T k q σ τ (f_X6_takeItem_j73 σ) (f_X8_readsItem_j106 τ) := by
  obtain ⟨q3, hq3⟩ : ∃ q3, q3 = rE t T 32 32 p := ⟨_, rfl⟩
  have q3T : q3 ≤ T := by rw [hq3]; exact rE_le t T 32 32 (T - p) p (by omega)
  have q3p : p ≤ q3 := by rw [hq3]; exact rE_ge t T 32 32 (T - p) p (by omega)
  have q3i : rE t T 32 32 q3 = q3 := by rw [hq3]; exact rE_id hp
  obtain ⟨σ1, hσ1⟩ : ∃ σ1, σ1 = sAu σ 14 0 (upd (sA σ 14 0) k (sG σ 11 0)) := ⟨_, rfl⟩
  have k1 : frK k σ σ1 := by rw [hσ1]; exact frK.a hL (by omega)
  obtain ⟨σ2, e2, l2, X2⟩ := v_next hT (k1.1.tX hx) (show sG σ1 13 0 = nI p by rw [hσ1]; exact h13) hp
  rw [← hq3] at X2
  have k2 : frK k σ σ2 := k1.tr (frK.lx k1.1.1.1 l2)
  obtain ⟨τ1, hτ1⟩ : ∃ τ1, τ1 = sGu τ 24 0 (nI q3) := ⟨_, rfl⟩
  have m1 : frR k τ τ1 := by rw [hτ1]; exact frR.s (Or.inl rfl)
  have s1 : sG τ1 24 0 = nI q3 := by rw [hτ1, sG_m]
  obtain ⟨c, c1, c2⟩ := w_here hT (m1.1.tY hy) s1 q3T
  have eV : f_X6_takeItem_j73 σ = if tkK t T q3 = 5 then (f_X6_next σ2).bind (fun σ8 => some (1, σ8)) else some (0, σ2) := by
    unfold f_X6_takeItem_j73
    rw [h9, if_pos (gd_nI (by omega) (by decide)), nI_clamp (by omega), ← hσ1, e2, Option.bind_some, X2.2.2.2.2.1]
  have eW : f_X8_readsItem_j106 τ = if tkK t T q3 = 5 then some (1, sGu (sGu τ1 24 0 (nI (q3 + 1))) 26 0 (nI (k + 1))) else some (0, τ1) := by
    unfold f_X8_readsItem_j106
    rw [w_skip hT hy hp h24, Option.bind_some, ← hq3, ← hτ1, c1, ss_bd_e]
    by_cases z : tkK t T q3 = 5
    · rw [if_pos (c2.mpr z), if_pos z, s1, nIa1, sG_n _ _ (by omega), hτ1, sG_n _ _ (by omega), h26, nIa1]
    · rw [if_neg (fun y => z (c2.mp y)), if_neg z]
  by_cases z : tkK t T q3 = 5
  · obtain ⟨t1, t2⟩ := tk_5B z
    have b2 := X2.2.2.2.2.2.1 t1
    rw [t2] at b2
    obtain ⟨σ3, e3, l3, X3⟩ := v_next hT X2.2.2.1 b2 (by omega)
    rw [eV, eW, if_pos z, if_pos z, e3, Option.bind_some]
    have k3 : frK k σ σ3 := k2.tr (frK.lx k2.1.1.1 l3)
    refine ⟨true, σ3, _, q3 + 1, rfl, rfl, k3, (m1.tr (frR.s (Or.inl rfl))).tr (frR.s (Or.inr (Or.inr rfl))), by rw [sG_n _ _ (by omega), sG_m], by omega, X3.2.2.2.1, fun _ => ⟨X3, by rw [sG_m], ?_, by omega⟩⟩
    have A3 : sA σ3 = sA σ1 := by rw [l3.A, l2.A]
    have B3 : ∀ y, sA (sGu (sGu τ1 24 0 (nI (q3 + 1))) 26 0 (nI (k + 1))) 22 0 y = sA τ 22 0 y := fun y => by rw [hτ1]; rfl
    by_cases w1 : w = 1
    · refine ⟨w, a, 0, hw, ha, by omega, hwk, ?_, by rw [B3]; exact r2, ?_, by rw [B3]; exact r4, fun y => absurd w1 y⟩
      · rw [A3, hσ1, sA_n _ _ (by omega)]; exact r1
      · rw [A3, hσ1, sA_n _ _ (by omega)]; exact r3
    · obtain ⟨b, b1, b2', b3⟩ := r5 w1
      refine ⟨w, a, b, hw, ha, b1, hwk, ?_, by rw [B3]; exact r2, ?_, by rw [B3]; exact r4, fun _ => ⟨?_, by rw [B3]; exact b3⟩⟩
      · rw [A3, hσ1, sA_n _ _ (by omega)]; exact r1
      · rw [A3, hσ1, sA_n _ _ (by omega)]; exact r3
      · rw [A3, hσ1, sA_m, upd_m]; exact b2'
  · rw [eV, eW, if_neg z, if_neg z]
    exact ⟨false, σ2, τ1, q3, rfl, rfl, k2, m1, s1, q3T, by rw [q3i]; exact X2.2.2.2.1, fun y => absurd y (by decide)⟩
theorem l12 : (1 : Int32) + 1 = 2 := by decide
theorem l23 : (2 : Int32) + 1 = 3 := by decide
theorem it_go {t : Nat → Int32} {T k q w : Nat} {σ τ : ss_M} (hT : T ≤ 150) (hL : LAY σ) (hX : Lx t T q σ) (hy : tY t T τ) (h9 : sG σ 9 0 = nI k) (h26 : sG τ 26 0 = nI k) (hk : k < 70) (hw : w ≤ 2) (hwk : w = 0 ↔ k = 0) (htk : tkK t T q = nI (w + 1)) (h24 : sG τ 24 0 = nI (q + 4)) (h22 : sA τ 22 0 (3 * k) = nI w) : ∀ n, 3 < n → itP t T k q σ τ (f_X6_takeItem σ) (f_X8_readsItem_L60 (nI w) f_X8_readsItem_j106 n 1 τ) := by
  intro n hn
  obtain ⟨n3, rfl⟩ : ∃ n3, n = n3 + 1 + 1 + 1 := ⟨n - 3, by omega⟩
  have h3w : tkK t T q = 1 ∨ tkK t T q = 2 ∨ tkK t T q = 3 := by
    rw [htk]
    match w, hw with
    | 0, _ => exact Or.inl rfl
    | 1, _ => exact Or.inr (Or.inl rfl)
    | 2, _ => exact Or.inr (Or.inr rfl)
  obtain ⟨u1, u2, u3⟩ := tk_w hX.1 h3w
  obtain ⟨q1, hq1⟩ : ∃ q1, q1 = rE t T 32 32 (q + 4) := ⟨_, rfl⟩
  have q1T : q1 ≤ T := by rw [hq1]; exact rE_le t T 32 32 (T - (q + 4)) (q + 4) (by omega)
  have q1p : q + 4 ≤ q1 := by rw [hq1]; exact rE_ge t T 32 32 (T - (q + 4)) (q + 4) (by omega)
  have q1i : rE t T 32 32 q1 = q1 := by rw [hq1]; exact rE_id u3
  obtain ⟨σ1, hσ1⟩ : ∃ σ1, σ1 = sAu σ 12 0 (upd (sA σ 12 0) k (nI (w + 1))) := ⟨_, rfl⟩
  have k1 : frK k σ σ1 := by rw [hσ1]; exact frK.a hL (by omega)
  have b1 : sG σ1 13 0 = nI (q + 4) := by rw [hσ1, ← u2]; exact hX.2.2.2.2.2.1 u1
  obtain ⟨σ2, e2, l2, X2⟩ := v_next hT (k1.1.tX hX.2.2.1) b1 u3
  rw [← hq1] at X2
  have k2 : frK k σ σ2 := k1.tr (frK.lx k1.1.1.1 l2)
  obtain ⟨σ3, hσ3⟩ : ∃ σ3, σ3 = sAu σ2 13 0 (upd (sA σ2 13 0) k (sG σ2 11 0)) := ⟨_, rfl⟩
  have k3 : frK k σ σ3 := by rw [hσ3]; exact k2.tr (frK.a k2.1.1.1 (by omega))
  have g3 : ∀ f o, sG σ3 f o = sG σ2 f o := fun f o => by rw [hσ3]; rfl
  have n9 : sG σ2 9 0 = nI k := k2.2.1.trans h9
  have row12 : sA σ3 12 0 k = nI (w + 1) := by rw [hσ3, sA_n _ _ (by omega), l2.A, hσ1, sA_m, upd_m]
  have row13 : sA σ3 13 0 k = sG σ2 11 0 := by rw [hσ3, sA_m, upd_m]
  have E1 : f_X6_takeItem σ = if tkK t T q1 = 4 then (if w = 1 then f_X6_takeItem_j73 σ3 else (f_X6_next σ3).bind (fun σ10 => if sG σ10 10 0 = 4 then f_X6_takeItem_j73 σ10 else some (0, σ10))) else some (0, σ3) := by
    have j26 : ∀ s : Int32, f_X6_takeItem_j26 s σ1 = if tkK t T q1 = 4 then (if s = 2 then (f_X6_next σ3).bind (fun σ10 => if sG σ10 10 0 = 4 then f_X6_takeItem_j73 σ10 else some (0, σ10)) else f_X6_takeItem_j73 σ3) else some (0, σ3) := by
      intro s
      unfold f_X6_takeItem_j26
      rw [e2, Option.bind_some, n9, if_pos (gd_nI (by omega) (by decide)), nI_clamp (by omega), ← hσ3, g3, X2.2.2.2.2.1]
    unfold f_X6_takeItem
    rw [h9, if_pos (gd_nI (by omega) (by decide)), nI_clamp (by omega), hX.2.2.2.2.1, htk, ← hσ1]
    have g1 : sG σ1 10 0 = nI (w + 1) := by rw [hσ1, ← htk]; exact hX.2.2.2.2.1
    rw [g1, j26, j26]
    match w, hw with
    | 0, _ => rw [if_neg (show ¬ nI (0 + 1) = (2 : Int32) by decide), if_pos rfl, if_neg (show ¬ (0 : Nat) = 1 by decide)]
    | 1, _ => rw [if_pos (show nI (1 + 1) = (2 : Int32) from rfl), if_neg (show ¬ (1 : Int32) = 2 by decide), if_pos rfl]
    | 2, _ => rw [if_neg (show ¬ nI (2 + 1) = (2 : Int32) by decide), if_pos rfl, if_neg (show ¬ (2 : Nat) = 1 by decide)]
  obtain ⟨τ2, f2, y2, s2, v2⟩ := w_number hT hy h24 u3
  rw [← hq1] at f2 s2 v2
  have n26 : sG τ2 26 0 = nI k := (y2.2 26 0 (by decide) (by decide)).trans h26
  have m2 : frR k τ τ2 := frR.ry y2
  obtain ⟨τ3, hτ3⟩ : ∃ τ3, τ3 = sAu τ2 22 0 (upd (sA τ2 22 0) (3 * k + 1) (sG τ2 25 0)) := ⟨_, rfl⟩
  have m3 : frR k τ τ3 := by rw [hτ3]; exact m2.tr (frR.a (by omega))
  have gt3 : ∀ f o, sG τ3 f o = sG τ2 f o := fun f o => by rw [hτ3]; rfl
  have it0 : sA τ3 22 0 (3 * k) = nI w := by rw [hτ3, sA_m, upd_n (by omega), y2.A]; exact h22
  have it1 : sA τ3 22 0 (3 * k + 1) = sG τ2 25 0 := by rw [hτ3, sA_m, upd_m]
  have J1 : ∀ (s : Int32) (kb : Int32 → ss_M → Option (Int32 × ss_M)), ¬ s ≤ 1 → f_X8_readsItem_j71 1 kb f_X8_readsItem_j106 s τ = if tkK t T q1 = 4 then kb 2 τ3 else some (0, τ2) := by
    intro s kb hs
    unfold f_X8_readsItem_j71
    rw [if_neg hs, f2, ss_bd_e]
    by_cases z : tkK t T q1 = 4
    · rw [if_pos z, if_pos z, if_neg n10, n26, show (3 : Int32) * nI k = nI (3 * k) from nIm 3 k, nIa1, if_pos (gd_nI (by omega) (by decide)), nI_clamp (by omega), l12, ← hτ3]
    · rw [if_neg z, if_neg z, if_pos rfl]
  have E2 : f_X8_readsItem_L60 (nI w) f_X8_readsItem_j106 (n3 + 1 + 1 + 1) 1 τ = if tkK t T q1 = 4 then f_X8_readsItem_L60 (nI w) f_X8_readsItem_j106 (n3 + 1 + 1) 2 τ3 else some (0, τ2) := by
    rw [f_X8_readsItem_L60, J1 2 _ (by decide), J1 3 _ (by decide)]
    split <;> rfl
  rw [E1, E2]
  by_cases z : tkK t T q1 = 4
  · obtain ⟨c1, c2, c3, c4, c5⟩ := tk_4B q1T z
    obtain ⟨a, a1, a2⟩ := tk_val q1T z
    rw [if_pos z, if_pos z]
    rw [if_pos z] at s2
    have va : sG σ2 11 0 = nI a := (X2.2.2.2.2.2.2 z).trans a2
    have wa : sG τ2 25 0 = nI a := (v2 z).trans a2
    have bb : sG σ3 13 0 = nI (tkB t T q1) := (g3 _ _).trans (X2.2.2.2.2.2.1 c2)
    have ss : sG τ3 24 0 = nI (tkB t T q1) := (gt3 _ _).trans s2
    have nn9 : sG σ3 9 0 = nI k := (g3 _ _).trans n9
    have nn26 : sG τ3 26 0 = nI k := (gt3 _ _).trans n26
    by_cases w1 : w = 1
    · rw [if_pos w1]
      have E3 : f_X8_readsItem_L60 (nI w) f_X8_readsItem_j106 (n3 + 1 + 1) 2 τ3 = f_X8_readsItem_j106 τ3 := by
        rw [f_X8_readsItem_L60, if_pos (show nI w = (1 : Int32) by rw [w1]; rfl)]
        unfold f_X8_readsItem_j71
        rw [if_pos (by decide)]
      rw [E3]
      exact (it_end (w := w) (a := a) hT k3.1.1.1 (k3.1.tX hX.2.2.1) (m3.1.tY hy) nn9 nn26 hk bb ss c4 (by omega) hw hwk a1 row12 it0 (row13.trans va) (it1.trans wa) (fun y => absurd w1 y)).tr k3 m3
    · rw [if_neg w1]
      obtain ⟨q2, hq2⟩ : ∃ q2, q2 = rE t T 32 32 (tkB t T q1) := ⟨_, rfl⟩
      have q2T : q2 ≤ T := by rw [hq2]; exact rE_le t T 32 32 (T - tkB t T q1) _ (by omega)
      have q2p : tkB t T q1 ≤ q2 := by rw [hq2]; exact rE_ge t T 32 32 (T - tkB t T q1) _ (by omega)
      have q2i : rE t T 32 32 q2 = q2 := by rw [hq2]; exact rE_id c4
      obtain ⟨σ4, e4, l4, X4⟩ := v_next hT (k3.1.tX hX.2.2.1) bb c4
      rw [← hq2] at X4
      have k4 : frK k σ σ4 := k3.tr (frK.lx k3.1.1.1 l4)
      obtain ⟨τ4, f4, y4, s4, v4⟩ := w_number hT (m3.1.tY hy) ss c4
      rw [← hq2] at f4 s4 v4
      have p26 : sG τ4 26 0 = nI k := (y4.2 26 0 (by decide) (by decide)).trans nn26
      have m4 : frR k τ τ4 := m3.tr (frR.ry y4)
      obtain ⟨τ5, hτ5⟩ : ∃ τ5, τ5 = sAu τ4 22 0 (upd (sA τ4 22 0) (3 * k + 2) (sG τ4 25 0)) := ⟨_, rfl⟩
      have m5 : frR k τ τ5 := by rw [hτ5]; exact m4.tr (frR.a (by omega))
      have gt5 : ∀ f o, sG τ5 f o = sG τ4 f o := fun f o => by rw [hτ5]; rfl
      have nw1 : ¬ nI w = (1 : Int32) := fun y => w1 ((nI_eq (b := 1) (by omega) (by decide)).mp y)
      have E3 : f_X8_readsItem_L60 (nI w) f_X8_readsItem_j106 (n3 + 1 + 1) 2 τ3 = if tkK t T q2 = 4 then f_X8_readsItem_j106 τ5 else some (0, τ4) := by
        rw [f_X8_readsItem_L60, if_neg nw1]
        unfold f_X8_readsItem_j71
        rw [if_neg (by decide), f4, ss_bd_e]
        by_cases x : tkK t T q2 = 4
        · rw [if_pos x, if_pos x, if_neg n10, p26, show (3 : Int32) * nI k = nI (3 * k) from nIm 3 k, show nI (3 * k) + 2 = nI (3 * k + 2) from nI_add _ 2, if_pos (gd_nI (by omega) (by decide)), nI_clamp (by omega), l23, ← hτ5, f_X8_readsItem_L60, if_neg nw1]
          unfold f_X8_readsItem_j71
          rw [if_pos (by decide)]
        · rw [if_neg x, if_neg x, if_pos rfl]
      rw [e4, Option.bind_some, E3, X4.2.2.2.2.1]
      by_cases x : tkK t T q2 = 4
      · obtain ⟨d1, d2, d3, d4, d5⟩ := tk_4B q2T x
        obtain ⟨b, b1', b2⟩ := tk_val q2T x
        rw [if_pos x, if_pos x]
        rw [if_pos x] at s4
        refine (it_end (w := w) (a := a) hT k4.1.1.1 X4.2.2.1 (m5.1.tY hy) (k4.2.1.trans h9) ((gt5 _ _).trans p26) hk (X4.2.2.2.2.2.1 d2) ((gt5 _ _).trans s4) d4 (by omega) hw hwk a1 ?_ ?_ ?_ ?_ (fun _ => ⟨b, b1', (X4.2.2.2.2.2.2 x).trans b2, ?_⟩)).tr k4 m5
        · rw [l4.A]; exact row12
        · rw [hτ5, sA_m, upd_n (by omega), y4.A]; exact it0
        · rw [l4.A]; exact row13.trans va
        · rw [hτ5, sA_m, upd_n (by omega), y4.A]; exact it1.trans wa
        · rw [hτ5, sA_m, upd_m]; exact (v4 x).trans b2
      · rw [if_neg x, if_neg x]
        rw [if_neg x] at s4
        exact ⟨false, σ4, τ4, q2, rfl, rfl, k4, m4, s4, q2T, by rw [q2i]; exact X4.2.2.2.1, fun y => absurd y (by decide)⟩
  · rw [if_neg z, if_neg z]
    rw [if_neg z] at s2
    exact ⟨false, σ3, τ2, q1, rfl, rfl, k3, m2, s2, q1T, by rw [q1i, g3]; exact X2.2.2.2.1, fun y => absurd y (by decide)⟩
theorem v_may {t : Nat → Int32} {T k q : Nat} {σ : ss_M} (hk : k < 70) (hX : Lx t T q σ) (h9 : sG σ 9 0 = nI k) : f_X6_mayBegin σ = some (if (k = 0 ∧ tkK t T q = 1) ∨ (k ≠ 0 ∧ (tkK t T q = 2 ∨ tkK t T q = 3)) then 1 else 0, σ) := by
  unfold f_X6_mayBegin f_X6_mayBegin_j39
  rw [h9, hX.2.2.2.2.1]
  by_cases z : k = 0
  · rw [if_pos (by rw [z]; rfl)]
    by_cases y : tkK t T q = 1
    · rw [if_pos y, if_pos (Or.inl ⟨z, y⟩)]
    · rw [if_neg y, if_neg (fun x => x.elim (fun x => y x.2) (fun x => x.1 z))]
  · rw [if_neg (show ¬ nI k = 0 from fun y => z ((nI_eq (b := 0) (by omega) (by decide)).mp y))]
    by_cases y : tkK t T q = 2
    · rw [if_pos y, if_pos (Or.inr ⟨z, Or.inl y⟩)]
    · rw [if_neg y]
      by_cases x : tkK t T q = 3
      · rw [if_pos x, if_pos (Or.inr ⟨z, Or.inr x⟩)]
      · rw [if_neg x, if_neg (fun u => u.elim (fun u => z u.1) (fun u => u.2.elim y x))]
theorem it_step {t : Nat → Int32} {T k q : Nat} {σ τ : ss_M} (hT : T ≤ 150) (hL : LAY σ) (hX : Lx t T q σ) (hy : tY t T τ) (h9 : sG σ 9 0 = nI k) (h26 : sG τ 26 0 = nI k) (h24 : sG τ 24 0 = nI q) (hqT : q < T) (hk : 6 * k ≤ q) : ∃ (ok : Bool) (σ' τ' : ss_M) (q' : Nat), (∀ kf kk : ss_M → Option (Int32 × ss_M), ss_bd (f_X6_mayBegin σ) (fun r5 σ5 => if r5 = (0 : Int32) then kf σ5 else ss_bd (f_X6_takeItem σ5) (fun r7 σ7 => if r7 = (0 : Int32) then kf σ7 else kk σ7)) = if ok = true then kk σ' else kf σ') ∧ (∀ K : Int32 → ss_M → Option (Int32 × ss_M), ss_bd (f_X8_readsItem τ) (fun r8 σ8 => Option.bind (f_X8_skip σ8) (fun σ9 => K r8 σ9)) = K (if ok = true then 1 else 0) τ') ∧ frK k σ σ' ∧ frR k τ τ' ∧ sG τ' 24 0 = nI q' ∧ q' ≤ T ∧ sG σ' 12 0 = nI q' ∧ (ok = true → Lx t T q' σ' ∧ sG τ' 26 0 = nI (k + 1) ∧ itR σ' τ' k ∧ q + 6 ≤ q') := by
  have hk70 : k < 70 := by omega
  have W := w_word hT hy h24 (Nat.le_of_lt hqT)
  by_cases g : (k = 0 ∧ tkK t T q = 1) ∨ (k ≠ 0 ∧ (tkK t T q = 2 ∨ tkK t T q = 3))
  · obtain ⟨w, w1, w2, w3⟩ : ∃ w, w ≤ 2 ∧ (w = 0 ↔ k = 0) ∧ tkK t T q = nI (w + 1) := by
      rcases g with ⟨z, y⟩ | ⟨z, y | y⟩
      · exact ⟨0, by decide, ⟨fun _ => z, fun _ => rfl⟩, y⟩
      · exact ⟨1, by decide, ⟨fun x => absurd x (by decide), fun x => absurd x z⟩, y⟩
      · exact ⟨2, by decide, ⟨fun x => absurd x (by decide), fun x => absurd x z⟩, y⟩
    obtain ⟨τ1, hτ1⟩ : ∃ τ1, τ1 = sAu (sGu τ 24 0 (nI (q + 4))) 22 0 (upd (sA τ 22 0) (3 * k) (nI w)) := ⟨_, rfl⟩
    have m1 : frR k τ τ1 := by rw [hτ1]; exact (frR.s (τ := τ) (v := nI (q + 4)) (Or.inl rfl)).tr (frR.a (Nat.le_refl _))
    have t1 : sG τ1 24 0 = nI (q + 4) := by rw [hτ1, sG_A, sG_m]
    have t2 : sG τ1 26 0 = nI k := by rw [hτ1, sG_A, sG_n _ _ (by omega)]; exact h26
    have t3 : sA τ1 22 0 (3 * k) = nI w := by rw [hτ1, sA_m, upd_m]
    obtain ⟨ok, σ', τ', p', e1, e2, e3, e4, e5, e6, e7, e8⟩ := it_go hT hL hX (m1.1.tY hy) h9 t2 hk70 w1 w2 w3 t1 t3 FU (FU_gt (by decide))
    have R : f_X8_readsItem τ = some (if ok = true then 1 else 0, τ') := by
      have j31 : ∀ s : Int32, f_X8_readsItem_j31 (nI w) s s τ = some (if ok = true then 1 else 0, τ') := by
        intro s
        unfold f_X8_readsItem_j31
        rw [if_pos rfl, h24, show nI q + 4 = nI (q + 4) from nI_add q 4, sG_n _ _ (by omega), h26, show (3 : Int32) * nI k = nI (3 * k) from nIm 3 k, if_pos (gd_nI (by omega) (by decide)), nI_clamp (by omega), sA_G, ss_let, ← hτ1]
        exact e2
      unfold f_X8_readsItem
      rw [W, ss_bd_e]
      match w, w1, w2, w3 with
      | 0, _, w2, w3 =>
        rw [if_pos (show tkK t T q = 1 from w3), if_neg (show ¬ (0 : Int32) = -1 by decide), if_pos rfl]
        unfold f_X8_readsItem_j19
        rw [h26, if_pos (show nI k = 0 by rw [w2.mp rfl]; rfl)]
        exact j31 1
      | 1, _, w2, w3 =>
        rw [if_neg (show ¬ tkK t T q = 1 by rw [w3]; decide), if_pos (show tkK t T q = 2 from w3), if_neg (show ¬ (1 : Int32) = -1 by decide), if_neg n10]
        unfold f_X8_readsItem_j19
        rw [h26, if_neg (show ¬ nI k = 0 from fun y => absurd (w2.mpr ((nI_eq (b := 0) (by omega) (by decide)).mp y)) (by decide))]
        exact j31 0
      | 2, _, w2, w3 =>
        rw [if_neg (show ¬ tkK t T q = 1 by rw [w3]; decide), if_neg (show ¬ tkK t T q = 2 by rw [w3]; decide), if_pos (show tkK t T q = 3 from w3), if_neg (show ¬ (2 : Int32) = -1 by decide), if_neg (show ¬ (2 : Int32) = 0 by decide)]
        unfold f_X8_readsItem_j19
        rw [h26, if_neg (show ¬ nI k = 0 from fun y => absurd (w2.mpr ((nI_eq (b := 0) (by omega) (by decide)).mp y)) (by decide))]
        exact j31 0
    have mm := m1.tr e4
    have rle' := rE_le t T 32 32 (T - p') p' (by omega)
    have rge' := rE_ge t T 32 32 (T - p') p' (by omega)
    refine ⟨ok, σ', sGu τ' 24 0 (nI (rE t T 32 32 p')), rE t T 32 32 p', fun kf kk => ?_, fun K => ?_, e3, mm.tr (frR.s (Or.inl rfl)), sG_m _ _ _ _, rle', e7, fun h => ?_⟩
    · rw [v_may hk70 hX h9, if_pos g, ss_bd_e, if_neg n10, e1, ss_bd_e]
      cases ok
      · rw [if_pos (show (if false = true then (1 : Int32) else 0) = 0 by decide), if_neg (show ¬ false = true by decide)]
      · rw [if_neg (show ¬ (if true = true then (1 : Int32) else 0) = 0 by decide), if_pos rfl]
    · rw [R, ss_bd_e, w_skip hT (mm.1.tY hy) e6 e5, Option.bind_some]
    · obtain ⟨g1, g2, g3, g4⟩ := e8 h
      exact ⟨g1, by rw [sG_n _ _ (by omega)]; exact g2, g3, by omega⟩
  · have R : f_X8_readsItem τ = some (0, τ) := by
      unfold f_X8_readsItem
      rw [W, ss_bd_e]
      by_cases z1 : tkK t T q = 1
      · rw [if_pos z1, if_neg (show ¬ (0 : Int32) = -1 by decide), if_pos rfl]
        unfold f_X8_readsItem_j19
        have k0 : ¬ k = 0 := fun y => g (Or.inl ⟨y, z1⟩)
        rw [h26, if_neg (show ¬ nI k = 0 from fun y => k0 ((nI_eq (b := 0) (by omega) (by decide)).mp y))]
        unfold f_X8_readsItem_j31
        rw [if_neg (by decide)]
      · rw [if_neg z1]
        have rest : ∀ x : Int32, x ≠ -1 → x ≠ 0 → (tkK t T q = 2 ∨ tkK t T q = 3) → (if x = -1 then some ((0 : Int32), τ) else if x = 0 then f_X8_readsItem_j19 x 1 τ else f_X8_readsItem_j19 x 0 τ) = some (0, τ) := by
          intro x x1 x2 hh
          rw [if_neg x1, if_neg x2]
          unfold f_X8_readsItem_j19
          have k0 : k = 0 := Classical.byContradiction fun y => g (Or.inr ⟨y, hh⟩)
          rw [h26, if_pos (show nI k = 0 by rw [k0]; rfl)]
          unfold f_X8_readsItem_j31
          rw [if_neg (by decide)]
        by_cases z2 : tkK t T q = 2
        · rw [if_pos z2]
          exact rest 1 (by decide) (by decide) (Or.inl z2)
        · rw [if_neg z2]
          by_cases z3 : tkK t T q = 3
          · rw [if_pos z3]
            exact rest 2 (by decide) (by decide) (Or.inr z3)
          · rw [if_neg z3, if_pos rfl]
    refine ⟨false, σ, sGu τ 24 0 (nI q), q, fun kf kk => ?_, fun K => ?_, ⟨QC.rf hL, rfl, fun _ _ _ _ => rfl⟩, frR.s (Or.inl rfl), sG_m _ _ _ _, Nat.le_of_lt hqT, hX.2.2.2.1, fun h => absurd h (by decide)⟩
    · rw [v_may hk70 hX h9, if_neg g, ss_bd_e, if_pos rfl, if_neg (by decide)]
    · rw [R, ss_bd_e, w_skip hT hy (Nat.le_of_lt hqT) h24, Option.bind_some, hX.2.1]
      rfl
