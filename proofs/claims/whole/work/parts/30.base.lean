/-! THE PURE LAYER: numbers, the page as a value, what couples class and reference -/
theorem gd_nI {i n : Nat} (h : i < n) (hn : n < 2 ^ 31) : gd (nI i) n = true := by
  unfold gd
  rw [nI_clamp (by omega)]
  simp [nI_pos (show i < 2 ^ 31 by omega), h]
theorem tI {n : Nat} (h : n < 2 ^ 31) : (nI n).toInt = (n : Int) := nI_toInt h
theorem i_lt {x y : Int32} : x < y ↔ x.toInt < y.toInt := Int32.lt_iff_toInt_lt
theorem i_le {x y : Int32} : x ≤ y ↔ x.toInt ≤ y.toInt := Int32.le_iff_toInt_le
theorem i_eq {x y : Int32} : x = y ↔ x.toInt = y.toInt := Int32.toInt_inj.symm
/-- an int between two literals -/
theorem i_mid {x : Int32} {a b : Nat} (hb : b < 2 ^ 31) (h1 : nI a ≤ x) (h2 : x ≤ nI b) (ha : a < 2 ^ 31) : ∃ k : Nat, a ≤ k ∧ k ≤ b ∧ x = nI k := by
  have e1 := i_le.mp h1
  have e2 := i_le.mp h2
  rw [tI ha] at e1
  rw [tI hb] at e2
  refine ⟨x.toInt.toNat, by omega, by omega, ?_⟩
  rw [i_eq, tI (by omega)]
  omega
theorem FU_gt {m : Nat} (h : m ≤ 9000) : m < FU := by unfold FU; omega
def kOk (c : Int32) : Prop := c = -1 ∨ c = 0 ∨ c = 1 ∨ c = 2 ∨ c = 3 ∨ c = 4 ∨ c = 5
abbrev pMk : Type := Nat × Nat × (Nat → Int32) × (Nat → Int32)
def mkOk (n w : Nat) (m : pMk) : Prop := m.1 ≤ 999 ∧ m.2.1 ≤ 20 * n ∧ ∀ i, i < w → kOk (m.2.2.1 i)
def cMk (σ : ss_M) (w k : Nat) (m : pMk) : Prop := sG σ 0 k = nI m.1 ∧ sG σ 1 k = nI m.2.1 ∧ (∀ i, i < w → sA σ 0 k i = m.2.2.1 i) ∧ ∀ i, i < w → sA σ 1 k i = m.2.2.2 i
def mMk (τ : ss_M) (w : Nat) (m : pMk) : Prop := sG τ 20 0 = nI m.1 ∧ sG τ 21 0 = nI m.2.1 ∧ (∀ i, i < w → sA τ 18 0 i = m.2.2.1 i) ∧ ∀ i, i < w → sA τ 19 0 i = m.2.2.2 i
def nMk (row : Nat → Int32) (b w : Nat) (m : pMk) : Prop := row b = nI m.1 ∧ row (b + 1) = nI m.2.1 ∧ (∀ i, i < w → row (b + 2 + i) = m.2.2.1 i) ∧ ∀ i, i < w → row (b + 14 + i) = m.2.2.2 i
/-- a page: (breath, price, pieces, heard, undone), lengths, what was heard, the marks, what may be undone -/
abbrev pPg : Type := (Nat × Nat × Nat × Nat × Nat) × (Nat → Nat) × (Nat → Int32) × pMk × (Nat → pMk)
def gOk (n : Nat) (g : pPg) : Prop := (1 ≤ g.1.1 ∧ g.1.1 ≤ 30) ∧ (1 ≤ g.1.2.1 ∧ g.1.2.1 ≤ 9) ∧ g.1.2.2.1 ≤ 12 ∧ g.1.2.2.2.1 ≤ 6 ∧ g.1.2.2.2.2 ≤ 8 ∧ (∀ i, i < g.1.2.2.1 → 1 ≤ g.2.1 i ∧ g.2.1 i ≤ 9) ∧ mkOk n g.1.2.2.1 g.2.2.2.1 ∧ ∀ j, j < g.1.2.2.2.2 → mkOk n g.1.2.2.1 (g.2.2.2.2 j)
def cPg (σ : ss_M) (p : Nat) (g : pPg) : Prop := (sG σ 3 p = nI g.1.1 ∧ sG σ 4 p = nI g.1.2.1 ∧ sG σ 5 p = nI g.1.2.2.1 ∧ sG σ 6 p = nI g.1.2.2.2.1 ∧ sG σ 7 p = nI g.1.2.2.2.2) ∧ (∀ i, i < g.1.2.2.1 → sA σ 4 p i = nI (g.2.1 i)) ∧ (∀ i, i < g.1.2.2.2.1 → sA σ 5 p i = g.2.2.1 i) ∧ cMk σ g.1.2.2.1 p g.2.2.2.1 ∧ ∀ j, j < g.1.2.2.2.2 → cMk σ g.1.2.2.1 (sR σ p j) (g.2.2.2.2 j)
def mPg (τ : ss_M) (g : pPg) : Prop := (sG τ 18 0 = nI g.1.1 ∧ sG τ 19 0 = nI g.1.2.1 ∧ sG τ 17 0 = nI g.1.2.2.1 ∧ sG τ 22 0 = nI g.1.2.2.2.1 ∧ sG τ 27 0 = nI g.1.2.2.2.2) ∧ (∀ i, i < g.1.2.2.1 → sA τ 17 0 i = nI (g.2.1 i)) ∧ (∀ i, i < g.1.2.2.2.1 → sA τ 20 0 i = g.2.2.1 i) ∧ mMk τ g.1.2.2.1 g.2.2.2.1 ∧ ∀ j, j < g.1.2.2.2.2 → nMk (sA τ 23 0) (26 * j) g.1.2.2.1 (g.2.2.2.2 j)
def iPg (τ : ss_M) (k : Nat) (g : pPg) : Prop := (sA τ 31 0 (258 * k) = nI g.1.1 ∧ sA τ 31 0 (258 * k + 1) = nI g.1.2.1 ∧ sA τ 31 0 (258 * k + 2) = nI g.1.2.2.1 ∧ sA τ 31 0 (258 * k + 5) = nI g.1.2.2.2.1 ∧ sA τ 31 0 (258 * k + 6) = nI g.1.2.2.2.2) ∧ (sA τ 31 0 (258 * k + 3) = nI g.2.2.2.1.1 ∧ sA τ 31 0 (258 * k + 4) = nI g.2.2.2.1.2.1) ∧ (∀ i, i < g.1.2.2.1 → sA τ 31 0 (258 * k + 7 + i) = nI (g.2.1 i)) ∧ (∀ i, i < g.1.2.2.1 → sA τ 31 0 (258 * k + 19 + i) = g.2.2.2.1.2.2.1 i) ∧ (∀ i, i < g.1.2.2.1 → sA τ 31 0 (258 * k + 31 + i) = g.2.2.2.1.2.2.2 i) ∧ (∀ i, i < g.1.2.2.2.1 → sA τ 31 0 (258 * k + 43 + i) = g.2.2.1 i) ∧ ∀ j, j < g.1.2.2.2.2 → nMk (sA τ 31 0) (258 * k + 49 + 26 * j) g.1.2.2.1 (g.2.2.2.2 j)
def LAY (σ : ss_M) : Prop := ∀ p, p < 4 → (∀ j, j < 8 → 4 + 8 * p ≤ sR σ p j ∧ sR σ p j < 12 + 8 * p) ∧ ∀ i j, i < 8 → j < 8 → sR σ p i = sR σ p j → i = j
def cImg (n : Nat) (σ τ : ss_M) (k : Nat) : Prop := (sA σ 101 0 k = 0 ∧ sA τ 31 0 (258 * k) = 0) ∨ (sA σ 101 0 k = 1 ∧ ∃ g, gOk n g ∧ cPg σ (2 + k) g ∧ iPg τ k g)
def cTx (σ τ : ss_M) : Prop := ∃ T, T ≤ 150 ∧ sG σ 8 0 = nI T ∧ sG τ 23 0 = nI T ∧ ∀ i, i < T → sA σ 11 0 i = sA τ 21 0 i
def cCh (σ τ : ss_M) : Prop := sL σ 0 = sL τ 2 ∧ sL σ 1 = sL τ 3
def cCt (σ τ : ss_M) : Prop := sG σ 14 0 = sA τ 16 0 0 ∧ sG σ 15 0 = sA τ 16 0 1 ∧ sG σ 16 0 = sA τ 16 0 2
/-- after n calls class and reference stand alike -/
def Cpl (n : Nat) (σ τ : ss_M) : Prop := LAY σ ∧ (∃ g, gOk n g ∧ cPg σ 0 g ∧ mPg τ g) ∧ cTx σ τ ∧ cCh σ τ ∧ cCt σ τ ∧ cImg n σ τ 0 ∧ cImg n σ τ 1
theorem mkOk.up {n w : Nat} {m : pMk} (h : mkOk n w m) : mkOk (n + 1) w m := ⟨h.1, by have := h.2.1; omega, h.2.2⟩
theorem gOk.up {n : Nat} {g : pPg} (h : gOk n g) : gOk (n + 1) g := ⟨h.1, h.2.1, h.2.2.1, h.2.2.2.1, h.2.2.2.2.1, h.2.2.2.2.2.1, h.2.2.2.2.2.2.1.up, fun j hj => (h.2.2.2.2.2.2.2 j hj).up⟩
theorem cImg.up {n : Nat} {σ τ : ss_M} {k : Nat} (h : cImg n σ τ k) : cImg (n + 1) σ τ k := by
  rcases h with h | ⟨h1, g, h2, h3⟩
  · exact Or.inl h
  · exact Or.inr ⟨h1, g, h2.up, h3⟩
/-- a page's own registers stay -/
def pgE (p : Nat) (σ σ' : ss_M) : Prop := (∀ f, 3 ≤ f → f ≤ 7 → sG σ' f p = sG σ f p) ∧ sA σ' 4 p = sA σ 4 p ∧ sA σ' 5 p = sA σ 5 p ∧ sR σ' p = sR σ p ∧ ∀ k, (k = p ∨ (4 + 8 * p ≤ k ∧ k < 12 + 8 * p)) → sG σ' 0 k = sG σ 0 k ∧ sG σ' 1 k = sG σ 1 k ∧ sA σ' 0 k = sA σ 0 k ∧ sA σ' 1 k = sA σ 1 k
theorem pgE.rf (p : Nat) (σ : ss_M) : pgE p σ σ := ⟨fun _ _ _ => rfl, rfl, rfl, rfl, fun _ _ => ⟨rfl, rfl, rfl, rfl⟩⟩
theorem pgE.tr {p : Nat} {a b c : ss_M} (h : pgE p a b) (k : pgE p b c) : pgE p a c :=
  ⟨fun f h1 h2 => (k.1 f h1 h2).trans (h.1 f h1 h2), k.2.1.trans h.2.1, k.2.2.1.trans h.2.2.1, k.2.2.2.1.trans h.2.2.2.1, fun q hq => ⟨(k.2.2.2.2 q hq).1.trans (h.2.2.2.2 q hq).1, (k.2.2.2.2 q hq).2.1.trans (h.2.2.2.2 q hq).2.1, (k.2.2.2.2 q hq).2.2.1.trans (h.2.2.2.2 q hq).2.2.1, (k.2.2.2.2 q hq).2.2.2.trans (h.2.2.2.2 q hq).2.2.2⟩⟩
theorem cMk.same {σ σ' : ss_M} {w k : Nat} {m : pMk} (h : cMk σ w k m) (e : sG σ' 0 k = sG σ 0 k ∧ sG σ' 1 k = sG σ 1 k ∧ sA σ' 0 k = sA σ 0 k ∧ sA σ' 1 k = sA σ 1 k) : cMk σ' w k m := by
  obtain ⟨e1, e2, e3, e4⟩ := e
  exact ⟨e1.trans h.1, e2.trans h.2.1, fun i hi => by rw [e3]; exact h.2.2.1 i hi, fun i hi => by rw [e4]; exact h.2.2.2 i hi⟩
theorem cPg.same {σ σ' : ss_M} {p n : Nat} {g : pPg} (hL : LAY σ) (hp : p < 4) (hg : gOk n g) (h : cPg σ p g) (e : pgE p σ σ') : cPg σ' p g := by
  obtain ⟨e1, e2, e3, e4, e5⟩ := e
  obtain ⟨⟨h1, h2, h3, h4, h5⟩, h6, h7, h8, h9⟩ := h
  refine ⟨⟨(e1 3 (by decide) (by decide)).trans h1, (e1 4 (by decide) (by decide)).trans h2, (e1 5 (by decide) (by decide)).trans h3, (e1 6 (by decide) (by decide)).trans h4, (e1 7 (by decide) (by decide)).trans h5⟩, fun i hi => by rw [e2]; exact h6 i hi, fun i hi => by rw [e3]; exact h7 i hi, h8.same (e5 p (Or.inl rfl)), fun j hj => ?_⟩
  have hq := hg.2.2.2.2.1
  rw [e4]
  exact (h9 j hj).same (e5 _ (Or.inr ((hL p hp).1 j (by omega))))
/-- what a method on page 0 leaves as it is -/
def eC (σ σ' : ss_M) : Prop := LAY σ' ∧ (∀ p, 2 ≤ p → p < 4 → pgE p σ σ') ∧ (sG σ' 8 0 = sG σ 8 0 ∧ sA σ' 11 0 = sA σ 11 0) ∧ (sL σ' 0 = sL σ 0 ∧ sL σ' 1 = sL σ 1) ∧ (sG σ' 14 0 = sG σ 14 0 ∧ sG σ' 15 0 = sG σ 15 0 ∧ sG σ' 16 0 = sG σ 16 0) ∧ sA σ' 101 0 = sA σ 101 0
def eM (τ τ' : ss_M) : Prop := (sG τ' 23 0 = sG τ 23 0 ∧ sA τ' 21 0 = sA τ 21 0) ∧ (sL τ' 2 = sL τ 2 ∧ sL τ' 3 = sL τ 3) ∧ sA τ' 16 0 = sA τ 16 0 ∧ sA τ' 31 0 = sA τ 31 0
theorem eC.rf {σ : ss_M} (h : LAY σ) : eC σ σ := ⟨h, fun p _ _ => pgE.rf p σ, ⟨rfl, rfl⟩, ⟨rfl, rfl⟩, ⟨rfl, rfl, rfl⟩, rfl⟩
theorem eC.tr {a b c : ss_M} (h : eC a b) (k : eC b c) : eC a c :=
  ⟨k.1, fun p h1 h2 => (h.2.1 p h1 h2).tr (k.2.1 p h1 h2), ⟨k.2.2.1.1.trans h.2.2.1.1, k.2.2.1.2.trans h.2.2.1.2⟩, ⟨k.2.2.2.1.1.trans h.2.2.2.1.1, k.2.2.2.1.2.trans h.2.2.2.1.2⟩, ⟨k.2.2.2.2.1.1.trans h.2.2.2.2.1.1, k.2.2.2.2.1.2.1.trans h.2.2.2.2.1.2.1, k.2.2.2.2.1.2.2.trans h.2.2.2.2.1.2.2⟩, k.2.2.2.2.2.trans h.2.2.2.2.2⟩
theorem eM.rf {τ : ss_M} : eM τ τ := ⟨⟨rfl, rfl⟩, ⟨rfl, rfl⟩, rfl, rfl⟩
theorem eM.tr {a b c : ss_M} (h : eM a b) (k : eM b c) : eM a c := ⟨⟨k.1.1.trans h.1.1, k.1.2.trans h.1.2⟩, ⟨k.2.1.1.trans h.2.1.1, k.2.1.2.trans h.2.1.2⟩, k.2.2.1.trans h.2.2.1, k.2.2.2.trans h.2.2.2⟩
theorem cImg.same {n : Nat} {σ σ' τ τ' : ss_M} {k : Nat} (hk : k < 2) (h : cImg n σ τ k) (hL : LAY σ) (e : eC σ σ') (f : eM τ τ') : cImg n σ' τ' k := by
  have e31 := f.2.2.2
  rcases h with ⟨h1, h2⟩ | ⟨h1, g, h2, h3, h4⟩
  · exact Or.inl ⟨by rw [e.2.2.2.2.2]; exact h1, by rw [e31]; exact h2⟩
  · refine Or.inr ⟨by rw [e.2.2.2.2.2]; exact h1, g, h2, h3.same hL (by omega) h2 (e.2.1 (2 + k) (by omega) (by omega)), ?_⟩
    unfold iPg
    rw [e31]
    exact h4
theorem Cpl.pg {n : Nat} {σ σ' τ τ' : ss_M} (h : Cpl n σ τ) (e : eC σ σ') (f : eM τ τ') (hg : ∃ g, gOk (n + 1) g ∧ cPg σ' 0 g ∧ mPg τ' g) : Cpl (n + 1) σ' τ' := by
  obtain ⟨hL, -, ⟨T, t1, t2, t3, t4⟩, ⟨c1, c2⟩, ⟨d1, d2, d3⟩, i0, i1⟩ := h
  refine ⟨e.1, hg, ⟨T, t1, e.2.2.1.1.trans t2, f.1.1.trans t3, fun i hi => ?_⟩, ⟨by rw [e.2.2.2.1.1, f.2.1.1]; exact c1, by rw [e.2.2.2.1.2, f.2.1.2]; exact c2⟩, ⟨by rw [e.2.2.2.2.1.1, f.2.2.1]; exact d1, by rw [e.2.2.2.2.1.2.1, f.2.2.1]; exact d2, by rw [e.2.2.2.2.1.2.2, f.2.2.1]; exact d3⟩, (i0.same (by decide) hL e f).up, (i1.same (by decide) hL e f).up⟩
  rw [e.2.2.1.2, f.1.2]
  exact t4 i hi
/-- the reference's page registers stay -/
def mgE (τ τ' : ss_M) : Prop := (sG τ' 17 0 = sG τ 17 0 ∧ sG τ' 18 0 = sG τ 18 0 ∧ sG τ' 19 0 = sG τ 19 0 ∧ sG τ' 20 0 = sG τ 20 0 ∧ sG τ' 21 0 = sG τ 21 0 ∧ sG τ' 22 0 = sG τ 22 0 ∧ sG τ' 27 0 = sG τ 27 0) ∧ sA τ' 17 0 = sA τ 17 0 ∧ sA τ' 18 0 = sA τ 18 0 ∧ sA τ' 19 0 = sA τ 19 0 ∧ sA τ' 20 0 = sA τ 20 0 ∧ sA τ' 23 0 = sA τ 23 0
theorem mgE.rf {τ : ss_M} : mgE τ τ := ⟨⟨rfl, rfl, rfl, rfl, rfl, rfl, rfl⟩, rfl, rfl, rfl, rfl, rfl⟩
theorem mPg.same {τ τ' : ss_M} {g : pPg} (h : mPg τ g) (e : mgE τ τ') : mPg τ' g := by
  obtain ⟨⟨e1, e2, e3, e4, e5, e6, e7⟩, f1, f2, f3, f4, f5⟩ := e
  unfold mPg mMk at *
  rw [e1, e2, e3, e4, e5, e6, e7, f1, f2, f3, f4, f5]
  exact h
/-- a question: nothing that counts has changed -/
def QC (σ σ' : ss_M) : Prop := eC σ σ' ∧ pgE 0 σ σ'
def QM (τ τ' : ss_M) : Prop := eM τ τ' ∧ mgE τ τ'
theorem QC.rf {σ : ss_M} (h : LAY σ) : QC σ σ := ⟨eC.rf h, pgE.rf 0 σ⟩
theorem QC.tr {a b c : ss_M} (h : QC a b) (k : QC b c) : QC a c := ⟨h.1.tr k.1, h.2.tr k.2⟩
theorem QM.rf {τ : ss_M} : QM τ τ := ⟨eM.rf, mgE.rf⟩
theorem Cpl.q {n : Nat} {σ σ' τ τ' : ss_M} (h : Cpl n σ τ) (e : QC σ σ') (f : QM τ τ') : Cpl (n + 1) σ' τ' := by
  obtain ⟨g, h1, h2, h3⟩ := h.2.1
  exact h.pg e.1 f.1 ⟨g, h1.up, h2.same h.1 (by decide) h1 e.2, h3.same f.2⟩
/-- the three ways of being refused -/
theorem Cpl.ct {n : Nat} {σ τ : ss_M} (h : Cpl n σ τ) (j : Nat) (hj : j < 3) : Cpl (n + 1) (sGu σ (14 + j) 0 (sG σ (14 + j) 0 + 1)) (sAu τ 16 0 (upd (sA τ 16 0) j (sA τ 16 0 j + 1))) := by
  obtain ⟨hL, ⟨g, h1, h2, h3⟩, ⟨T, t1, t2, t3, t4⟩, c, ⟨d1, d2, d3⟩, i0, i1⟩ := h
  have ep : ∀ p, pgE p σ (sGu σ (14 + j) 0 (sG σ (14 + j) 0 + 1)) := fun p => ⟨fun f h1 h2 => by rw [sG_G, if_neg (by omega)], rfl, rfl, rfl, fun k _ => ⟨by rw [sG_G, if_neg (by omega)], by rw [sG_G, if_neg (by omega)], rfl, rfl⟩⟩
  have im : ∀ k, k < 2 → cImg n σ τ k → cImg (n + 1) (sGu σ (14 + j) 0 (sG σ (14 + j) 0 + 1)) (sAu τ 16 0 (upd (sA τ 16 0) j (sA τ 16 0 j + 1))) k := by
    intro k hk h
    rcases h with h | ⟨h1, g, h2, h3, h4⟩
    · exact Or.inl h
    · exact Or.inr ⟨h1, g, h2.up, h3.same hL (by omega) h2 (ep _), h4⟩
  refine ⟨hL, ⟨g, h1.up, h2.same hL (by decide) h1 (ep 0), h3⟩, ⟨T, t1, by rw [sG_G, if_neg (by omega)]; exact t2, t3, t4⟩, c, ?_, im 0 (by decide) i0, im 1 (by decide) i1⟩
  match j, hj with
  | 0, _ => exact ⟨by simp [sG_G, sA_A, upd, d1], by simp [sG_G, sA_A, upd, d2], by simp [sG_G, sA_A, upd, d3]⟩
  | 1, _ => exact ⟨by simp [sG_G, sA_A, upd, d1], by simp [sG_G, sA_A, upd, d2], by simp [sG_G, sA_A, upd, d3]⟩
  | 2, _ => exact ⟨by simp [sG_G, sA_A, upd, d1], by simp [sG_G, sA_A, upd, d2], by simp [sG_G, sA_A, upd, d3]⟩
