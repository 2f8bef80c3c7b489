/-! what changes a page -/
theorem c12 : (12 : Int32).toNatClampNeg = 12 := by decide
theorem c6 : (6 : Int32).toNatClampNeg = 6 := by decide
theorem gdc12 : gdc (0 : Int32) (0 : Int32) (12 : Int32) 12 12 = true := by decide
theorem gdc6 : gdc (0 : Int32) (0 : Int32) (6 : Int32) 6 6 = true := by decide
theorem ex_sR (σ : ss_M) (p : Nat) : sRu σ p (sR σ p) = σ := by
  obtain ⟨a, b, c, d, e⟩ := σ
  unfold sRu sR
  congr 4
  funext q
  by_cases h : q = p
  · rw [if_pos h, h]
  · rw [if_neg h]
theorem sR_2 (σ : ss_M) (p : Nat) (a b : Nat → Nat) : sRu (sRu σ p a) p b = sRu σ p b := by
  obtain ⟨x, y, z, d, e⟩ := σ
  unfold sRu
  congr 4
  funext q
  by_cases h : q = p <;> simp [h]
theorem ex_sA (σ : ss_M) (c o : Nat) : sAu σ c o (sA σ c o) = σ := by
  obtain ⟨x, y, z, d, e⟩ := σ
  unfold sAu sA
  congr 2
  funext c' o'
  by_cases h : c' = c ∧ o' = o
  · rw [if_pos h, h.1, h.2]
  · rw [if_neg h]
theorem sA_2 (σ : ss_M) (c o : Nat) (a b : Nat → Int32) : sAu (sAu σ c o a) c o b = sAu σ c o b := by
  obtain ⟨x, y, z, d, e⟩ := σ
  unfold sAu
  congr 2
  funext c' o'
  by_cases h : c' = c ∧ o' = o <;> simp [h]
theorem sA_m (σ : ss_M) (c o : Nat) (a : Nat → Int32) : sA (sAu σ c o a) c o = a := by rw [sA_A, if_pos ⟨rfl, rfl⟩]
theorem sR_m (σ : ss_M) (p : Nat) (a : Nat → Nat) : sR (sRu σ p a) p = a := by rw [sR_R, if_pos rfl]
/-- only the marks of number o change -/
def mkE (o : Nat) (σ σ' : ss_M) : Prop := (∀ f k, ¬ (f ≤ 1 ∧ k = o) → sG σ' f k = sG σ f k) ∧ (∀ c k, ¬ (c ≤ 1 ∧ k = o) → sA σ' c k = sA σ c k) ∧ sL σ' = sL σ ∧ sB σ' = sB σ ∧ sR σ' = sR σ
theorem mkE.pg {o p : Nat} {σ σ' : ss_M} (h : mkE o σ σ') (ho : o ≠ p ∧ ¬ (4 + 8 * p ≤ o ∧ o < 12 + 8 * p)) : pgE p σ σ' :=
  ⟨fun f h1 _ => h.1 f p (by omega), h.2.1 4 p (by omega), h.2.1 5 p (by omega), by rw [h.2.2.2.2], fun k hk => ⟨h.1 0 k (by omega), h.1 1 k (by omega), h.2.1 0 k (by omega), h.2.1 1 k (by omega)⟩⟩
theorem mkE.eC {o : Nat} {σ σ' : ss_M} (hL : LAY σ) (h : mkE o σ σ') (ho : o = 0 ∨ (4 ≤ o ∧ o < 12)) : eC σ σ' :=
  ⟨by unfold LAY; rw [h.2.2.2.2]; exact hL, fun p h1 h2 => h.pg ⟨by omega, by omega⟩, ⟨h.1 8 0 (by omega), h.2.1 11 0 (by omega)⟩, ⟨by rw [h.2.2.1], by rw [h.2.2.1]⟩, ⟨h.1 14 0 (by omega), h.1 15 0 (by omega), h.1 16 0 (by omega)⟩, h.2.1 101 0 (by omega)⟩
theorem mkE.mk {o k w : Nat} {σ σ' : ss_M} {m : pMk} (h : mkE o σ σ') (hk : k ≠ o) (hm : cMk σ w k m) : cMk σ' w k m := hm.same ⟨h.1 0 k (by omega), h.1 1 k (by omega), h.2.1 0 k (by omega), h.2.1 1 k (by omega)⟩
theorem v_set {o i : Nat} {k : Int32} {σ : ss_M} (hi : i < 12) : f_X2_set o (nI i) k σ = some (sAu (sAu σ 0 o (upd (sA σ 0 o) i k)) 1 o (upd (sA σ 1 o) i 0)) := by
  simp only [f_X2_set, gd_nI hi (show 12 < 2 ^ 31 by decide), if_true, nI_clamp (show i < 2 ^ 31 by omega), ss_let]
  rfl
theorem v_set_E (o i : Nat) (k : Int32) (σ : ss_M) : mkE o σ (sAu (sAu σ 0 o (upd (sA σ 0 o) i k)) 1 o (upd (sA σ 1 o) i 0)) :=
  ⟨fun f k _ => rfl, fun c q h => by rw [sA_A, if_neg (by omega), sA_A, if_neg (by omega)], rfl, rfl, rfl⟩
theorem upd_c {f g : Nat → Int32} {i j : Nat} {x : Int32} (h : f j = g j) : upd f i x j = upd g i x j := by
  unfold upd
  rw [h]
theorem v_set_M {o i w : Nat} {k : Int32} {σ : ss_M} {m : pMk} (h : cMk σ w o m) : cMk (sAu (sAu σ 0 o (upd (sA σ 0 o) i k)) 1 o (upd (sA σ 1 o) i 0)) w o (m.1, m.2.1, upd m.2.2.1 i k, upd m.2.2.2 i 0) := by
  refine ⟨h.1, h.2.1, fun j hj => ?_, fun j hj => ?_⟩
  · rw [sA_A, if_neg (by omega), sA_m]
    exact upd_c (h.2.2.1 j hj)
  · rw [sA_m]
    exact upd_c (h.2.2.2 j hj)
theorem w_mark {i : Nat} {k : Int32} {τ : ss_M} (hi : i < 12) : f_X8_mark (nI i) k τ = some (sAu (sAu τ 18 0 (upd (sA τ 18 0) i k)) 19 0 (upd (sA τ 19 0) i 0)) := by
  simp only [f_X8_mark, gd_nI hi (show 12 < 2 ^ 31 by decide), if_true, nI_clamp (show i < 2 ^ 31 by omega), ss_let]
  rfl
theorem w_mark_M {i w : Nat} {k : Int32} {τ : ss_M} {m : pMk} (h : mMk τ w m) : mMk (sAu (sAu τ 18 0 (upd (sA τ 18 0) i k)) 19 0 (upd (sA τ 19 0) i 0)) w (m.1, m.2.1, upd m.2.2.1 i k, upd m.2.2.2 i 0) := by
  refine ⟨h.1, h.2.1, fun j hj => ?_, fun j hj => ?_⟩
  · rw [sA_A, if_neg (by decide), sA_m]
    exact upd_c (h.2.2.1 j hj)
  · rw [sA_m]
    exact upd_c (h.2.2.2 j hj)
theorem mkOk.set {n w i : Nat} {k : Int32} {m : pMk} (h : mkOk n w m) (hk : kOk k) : mkOk n w (m.1, m.2.1, upd m.2.2.1 i k, upd m.2.2.2 i 0) := by
  refine ⟨h.1, h.2.1, fun j hj => ?_⟩
  show kOk (upd m.2.2.1 i k j)
  unfold upd
  by_cases hji : j = i
  · rw [if_pos hji]; exact hk
  · rw [if_neg hji]; exact h.2.2 j hj
/-- a mark of page p is put: the page behind -/
def gSet (g : pPg) (i : Nat) (k : Int32) : pPg := (g.1, g.2.1, g.2.2.1, (g.2.2.2.1.1, g.2.2.2.1.2.1, upd g.2.2.2.1.2.2.1 i k, upd g.2.2.2.1.2.2.2 i 0), g.2.2.2.2)
theorem gSet_ok {n i : Nat} {g : pPg} {k : Int32} (h : gOk n g) (hk : kOk k) : gOk n (gSet g i k) := ⟨h.1, h.2.1, h.2.2.1, h.2.2.2.1, h.2.2.2.2.1, h.2.2.2.2.2.1, h.2.2.2.2.2.2.1.set hk, h.2.2.2.2.2.2.2⟩
theorem gSet_c {n i p : Nat} {g : pPg} {k : Int32} {σ : ss_M} (hp : p < 4) (hL : LAY σ) (hg : gOk n g) (h : cPg σ p g) : cPg (sAu (sAu σ 0 p (upd (sA σ 0 p) i k)) 1 p (upd (sA σ 1 p) i 0)) p (gSet g i k) := by
  refine ⟨h.1, fun j hj => ?_, fun j hj => ?_, v_set_M h.2.2.2.1, fun j hj => ?_⟩
  · rw [sA_A, if_neg (by omega), sA_A, if_neg (by omega)]; exact h.2.1 j hj
  · rw [sA_A, if_neg (by omega), sA_A, if_neg (by omega)]; exact h.2.2.1 j hj
  · have hj' : j < g.1.2.2.2.2 := hj
    have hq := hg.2.2.2.2.1
    have := (hL p hp).1 j (by omega)
    exact (v_set_E p i k σ).mk (by show sR σ p j ≠ p; omega) (h.2.2.2.2 j hj)
theorem gSet_m {i : Nat} {g : pPg} {k : Int32} {τ : ss_M} (h : mPg τ g) : mPg (sAu (sAu τ 18 0 (upd (sA τ 18 0) i k)) 19 0 (upd (sA τ 19 0) i 0)) (gSet g i k) := ⟨h.1, h.2.1, h.2.2.1, w_mark_M h.2.2.2.1, h.2.2.2.2⟩
theorem eM_mark (τ : ss_M) (i : Nat) (k : Int32) : eM τ (sAu (sAu τ 18 0 (upd (sA τ 18 0) i k)) 19 0 (upd (sA τ 19 0) i 0)) := (eM_a (by decide)).tr (eM_a (by decide))
/-- a copy of marks -/
theorem v_copy {o o0 : Nat} (σ : ss_M) : ∃ σ', f_X2_copy o o0 σ = some σ' ∧ mkE o σ σ' ∧ ∀ (w : Nat) (m : pMk), w ≤ 12 → o ≠ o0 → cMk σ w o0 m → cMk σ' w o m := by
  refine ⟨sAu (sAu (sGu (sGu σ 0 o (sG σ 0 o0)) 1 o (sG σ 1 o0)) 0 o (va_cpy (sA σ 0 o0) (sA σ 0 o) 0 0 12)) 1 o (va_cpy (sA σ 1 o0) (sA σ 1 o) 0 0 12), by simp only [f_X2_copy, gdc12, if_true, ss_let, c_0, c12]; rfl, ⟨fun f k h => ?_, fun c k h => ?_, rfl, rfl, rfl⟩, fun w m hw ho h => ⟨?_, ?_, fun i hi => ?_, fun i hi => ?_⟩⟩
  · rw [sG_A, sG_A, sG_G, if_neg (by omega), sG_G, if_neg (by omega)]
  · rw [sA_A, if_neg (by omega), sA_A, if_neg (by omega)]; rfl
  · rw [sG_A, sG_A, sG_G, if_neg (by omega), sG_G, if_pos ⟨rfl, rfl⟩]; exact h.1
  · rw [sG_A, sG_A, sG_G, if_pos ⟨rfl, rfl⟩]; exact h.2.1
  · rw [sA_A, if_neg (by omega), sA_m, pk_cpy_in (by omega) (by omega)]
    have : (0 : Nat) + (i - 0) = i := by omega
    rw [this]; exact h.2.2.1 i hi
  · rw [sA_m, pk_cpy_in (by omega) (by omega)]
    have : (0 : Nat) + (i - 0) = i := by omega
    rw [this]; exact h.2.2.2 i hi
