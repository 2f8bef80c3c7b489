/-! THE MEMORY: one state of all objects of a side (side 0: the class, side 1: the reference), by codes; see wip/gen/layout.py -/
abbrev ss_M : Type := (Nat → Nat → Int32) × (Nat → Nat → Nat → Int32) × (Nat → Int64) × (Nat → Nat → Int64) × (Nat → Nat → Nat)
def sG (σ : ss_M) (f o : Nat) : Int32 := σ.1 f o
def sA (σ : ss_M) (c o : Nat) : Nat → Int32 := σ.2.1 c o
def sL (σ : ss_M) (f : Nat) : Int64 := σ.2.2.1 f
def sB (σ : ss_M) (c : Nat) : Nat → Int64 := σ.2.2.2.1 c
def sR (σ : ss_M) (p : Nat) : Nat → Nat := σ.2.2.2.2 p
def sGu (σ : ss_M) (f o : Nat) (v : Int32) : ss_M := (fun f' o' => if f' = f ∧ o' = o then v else σ.1 f' o', σ.2)
def sAu (σ : ss_M) (c o : Nat) (v : Nat → Int32) : ss_M := (σ.1, (fun c' o' => if c' = c ∧ o' = o then v else σ.2.1 c' o'), σ.2.2)
def sLu (σ : ss_M) (f : Nat) (v : Int64) : ss_M := (σ.1, σ.2.1, (fun f' => if f' = f then v else σ.2.2.1 f'), σ.2.2.2)
def sBu (σ : ss_M) (c : Nat) (v : Nat → Int64) : ss_M := (σ.1, σ.2.1, σ.2.2.1, (fun c' => if c' = c then v else σ.2.2.2.1 c'), σ.2.2.2.2)
def sRu (σ : ss_M) (p : Nat) (v : Nat → Nat) : ss_M := (σ.1, σ.2.1, σ.2.2.1, σ.2.2.2.1, (fun p' => if p' = p then v else σ.2.2.2.2 p'))
def sUp (f : Nat → Nat) (i v : Nat) : Nat → Nat := fun j => if j = i then v else f j
theorem sG_G (σ : ss_M) (f o : Nat) (v : Int32) (f' o' : Nat) : sG (sGu σ f o v) f' o' = if f' = f ∧ o' = o then v else sG σ f' o' := rfl
theorem sG_A (σ : ss_M) (c o : Nat) (v : Nat → Int32) (f' o' : Nat) : sG (sAu σ c o v) f' o' = sG σ f' o' := rfl
theorem sG_L (σ : ss_M) (f : Nat) (v : Int64) (f' o' : Nat) : sG (sLu σ f v) f' o' = sG σ f' o' := rfl
theorem sG_B (σ : ss_M) (c : Nat) (v : Nat → Int64) (f' o' : Nat) : sG (sBu σ c v) f' o' = sG σ f' o' := rfl
theorem sG_R (σ : ss_M) (p : Nat) (v : Nat → Nat) (f' o' : Nat) : sG (sRu σ p v) f' o' = sG σ f' o' := rfl
theorem sA_G (σ : ss_M) (f o : Nat) (v : Int32) (c' o' : Nat) : sA (sGu σ f o v) c' o' = sA σ c' o' := rfl
theorem sA_A (σ : ss_M) (c o : Nat) (v : Nat → Int32) (c' o' : Nat) : sA (sAu σ c o v) c' o' = if c' = c ∧ o' = o then v else sA σ c' o' := rfl
theorem sA_L (σ : ss_M) (f : Nat) (v : Int64) (c' o' : Nat) : sA (sLu σ f v) c' o' = sA σ c' o' := rfl
theorem sA_B (σ : ss_M) (c : Nat) (v : Nat → Int64) (c' o' : Nat) : sA (sBu σ c v) c' o' = sA σ c' o' := rfl
theorem sA_R (σ : ss_M) (p : Nat) (v : Nat → Nat) (c' o' : Nat) : sA (sRu σ p v) c' o' = sA σ c' o' := rfl
theorem sL_G (σ : ss_M) (f o : Nat) (v : Int32) (c' : Nat) : sL (sGu σ f o v) c' = sL σ c' := rfl
theorem sL_A (σ : ss_M) (c o : Nat) (v : Nat → Int32) (c' : Nat) : sL (sAu σ c o v) c' = sL σ c' := rfl
theorem sL_L (σ : ss_M) (f : Nat) (v : Int64) (c' : Nat) : sL (sLu σ f v) c' = if c' = f then v else sL σ c' := rfl
theorem sL_B (σ : ss_M) (c : Nat) (v : Nat → Int64) (c' : Nat) : sL (sBu σ c v) c' = sL σ c' := rfl
theorem sL_R (σ : ss_M) (p : Nat) (v : Nat → Nat) (c' : Nat) : sL (sRu σ p v) c' = sL σ c' := rfl
theorem sB_G (σ : ss_M) (f o : Nat) (v : Int32) (c' : Nat) : sB (sGu σ f o v) c' = sB σ c' := rfl
theorem sB_A (σ : ss_M) (c o : Nat) (v : Nat → Int32) (c' : Nat) : sB (sAu σ c o v) c' = sB σ c' := rfl
theorem sB_L (σ : ss_M) (f : Nat) (v : Int64) (c' : Nat) : sB (sLu σ f v) c' = sB σ c' := rfl
theorem sB_B (σ : ss_M) (c : Nat) (v : Nat → Int64) (c' : Nat) : sB (sBu σ c v) c' = if c' = c then v else sB σ c' := rfl
theorem sB_R (σ : ss_M) (p : Nat) (v : Nat → Nat) (c' : Nat) : sB (sRu σ p v) c' = sB σ c' := rfl
theorem sR_G (σ : ss_M) (f o : Nat) (v : Int32) (c' : Nat) : sR (sGu σ f o v) c' = sR σ c' := rfl
theorem sR_A (σ : ss_M) (c o : Nat) (v : Nat → Int32) (c' : Nat) : sR (sAu σ c o v) c' = sR σ c' := rfl
theorem sR_L (σ : ss_M) (f : Nat) (v : Int64) (c' : Nat) : sR (sLu σ f v) c' = sR σ c' := rfl
theorem sR_B (σ : ss_M) (c : Nat) (v : Nat → Int64) (c' : Nat) : sR (sBu σ c v) c' = sR σ c' := rfl
theorem sR_R (σ : ss_M) (p : Nat) (v : Nat → Nat) (c' : Nat) : sR (sRu σ p v) c' = if c' = p then v else sR σ c' := rfl
/-- an index within, as a test -/
def gd (i : Int32) (n : Nat) : Bool := !(decide (i < 0)) && decide (i.toNatClampNeg < n)
theorem gd_in {i : Int32} {n : Nat} (h : gd i n = true) : vp_in i n := by
  unfold gd at h
  simp only [Bool.and_eq_true, Bool.not_eq_true', decide_eq_false_iff_not, decide_eq_true_eq] at h
  exact fun q => q.elim h.1 (fun q => absurd h.2 (Nat.not_lt.mpr q))
def gdc (sp dp n : Int32) (n0 n1 : Nat) : Bool := !(decide (sp < 0)) && !(decide (dp < 0)) && !(decide (n < 0)) && decide (sp.toNatClampNeg + n.toNatClampNeg ≤ n0) && decide (dp.toNatClampNeg + n.toNatClampNeg ≤ n1)
theorem gdc_in {sp dp n : Int32} {n0 n1 : Nat} (h : gdc sp dp n n0 n1 = true) : ¬ sp < 0 ∧ ¬ dp < 0 ∧ ¬ n < 0 ∧ sp.toNatClampNeg + n.toNatClampNeg ≤ n0 ∧ dp.toNatClampNeg + n.toNatClampNeg ≤ n1 := by
  unfold gdc at h
  simp only [Bool.and_eq_true, Bool.not_eq_true', decide_eq_false_iff_not, decide_eq_true_eq] at h
  exact ⟨h.1.1.1.1, h.1.1.1.2, h.1.1.2, h.1.2, h.2⟩
theorem ss_if {α : Type} {c : Prop} {x : Decidable c} {a : Option α} {o : α} (h : (if c then a else none) = some o) : c ∧ a = some o := by
  by_cases q : c
  · rw [if_pos q] at h; exact ⟨q, h⟩
  · rw [if_neg q] at h; cases h
theorem ss_bind {α β : Type} {a : Option α} {k : α → Option β} {o : β} (h : a.bind k = some o) : ∃ x, a = some x ∧ k x = some o := by
  cases a with
  | none => cases h
  | some x => exact ⟨x, rfl, h⟩
def ss_bd {α β : Type} (a : Option (α × ss_M)) (k : α → ss_M → Option β) : Option β := match a with
  | none => none
  | some z => k z.1 z.2
theorem ss_bd_some {α β : Type} {a : Option (α × ss_M)} {k : α → ss_M → Option β} {o : β} (h : ss_bd a k = some o) : ∃ r σ, a = some (r, σ) ∧ k r σ = some o := by
  cases a with
  | none => cases h
  | some z => exact ⟨z.1, z.2, rfl, h⟩
theorem ss_bd_e {α β : Type} (r : α) (σ : ss_M) (k : α → ss_M → Option β) : ss_bd (some (r, σ)) k = k r σ := rfl
def ss_let {β : Type} (x : ss_M) (k : ss_M → Option β) : Option β := k x
theorem ss_let_some {β : Type} {x : ss_M} {k : ss_M → Option β} {o : β} (h : ss_let x k = some o) : ∃ y, y = x ∧ k y = some o := ⟨x, rfl, h⟩
theorem gd_lt {i : Int32} {n : Nat} (h : gd i n = true) : i.toNatClampNeg < n := by
  unfold gd at h
  simp only [Bool.and_eq_true, decide_eq_true_eq] at h
  exact h.2
theorem gd_lti {i : Int32} {n : Nat} {k : Int32} (h : gd i n = true) (hk : (n : Int) ≤ k.toInt) : i < k := by
  obtain ⟨h1, h2⟩ := vp_in_iff.mp (gd_in h)
  exact Int32.lt_iff_toInt_lt.mpr (by omega)
def FU : Nat := 10000
def alen (c : Nat) : Nat := match c with
  | 0 => 12
  | 1 => 12
  | 2 => 7
  | 3 => 7
  | 4 => 12
  | 5 => 6
  | 6 => 31
  | 7 => 31
  | 8 => 31
  | 9 => 31
  | 10 => 31
  | 11 => 150
  | 12 => 150
  | 13 => 150
  | 14 => 150
  | 15 => 13
  | 16 => 3
  | 17 => 12
  | 18 => 12
  | 19 => 12
  | 20 => 6
  | 21 => 150
  | 22 => 225
  | 23 => 208
  | 24 => 403
  | 25 => 12
  | 26 => 31
  | 27 => 31
  | 28 => 7
  | 29 => 7
  | 30 => 13
  | 31 => 516
  | _ => 0
def rlen (c : Nat) : Nat := match c with
  | 0 => 8
  | 1 => 2
  | 2 => 13
  | 3 => 13
  | 4 => 12
  | _ => 0
/-- how many cells there are of a kind: side w; t 0 objects, 1 int rows, 2 boolean rows, 3 long rows, 4 rows of references -/
def cn (w t c : Nat) : Nat := if w = 0 then (match t with
  | 0 => [1, 36, 1, 4, 1, 1, 1].getD c 0
  | 1 => [36, 36, 1, 1, 4, 4, 13, 13, 12, 1, 1, 1, 1, 1, 1, 1].getD c 0
  | 2 => [1, 1].getD c 0
  | 3 => [1, 1].getD c 0
  | 4 => [4, 1, 1, 1, 1].getD c 0
  | _ => 0) else (match t with
  | 0 => [0, 0, 0, 0, 0, 0, 0, 1].getD c 0
  | 1 => [0, 0, 0, 0, 0, 0, 0, 0, 0, 0, 0, 0, 0, 0, 0, 0, 1, 1, 1, 1, 1, 1, 1, 1, 1, 1, 1, 1, 1, 1, 1, 1].getD c 0
  | 3 => [0, 0, 1, 1].getD c 0
  | _ => 0)
def zlen (c : Nat) : Nat := match c with
  | 0 => 7
  | 1 => 2
  | _ => 0
abbrev ss_K : Type := Nat × Nat × Nat
def kS (w : Nat) : List ss_K := (List.range 5).flatMap fun t => (List.range 34).flatMap fun c => (List.range (cn w t c)).map fun o => (t, c, o)
theorem kS_mem {w t c o : Nat} : (t, c, o) ∈ kS w ↔ t < 5 ∧ c < 34 ∧ o < cn w t c := by
  constructor
  · intro h
    obtain ⟨t', h1, h⟩ := List.mem_flatMap.mp h
    obtain ⟨c', h2, h⟩ := List.mem_flatMap.mp h
    obtain ⟨o', h3, h⟩ := List.mem_map.mp h
    cases h
    exact ⟨List.mem_range.mp h1, List.mem_range.mp h2, List.mem_range.mp h3⟩
  · intro h
    exact List.mem_flatMap.mpr ⟨t, List.mem_range.mpr h.1, List.mem_flatMap.mpr ⟨c, List.mem_range.mpr h.2.1, List.mem_map.mpr ⟨o, List.mem_range.mpr h.2.2, rfl⟩⟩⟩
theorem kS_in {w t c o : Nat} (h : o < cn w t c) (ht : t < 5 := by decide) (hc : c < 34 := by decide) : (t, c, o) ∈ kS w := kS_mem.mpr ⟨ht, hc, h⟩
set_option maxRecDepth 100000 in
theorem kS_nd0 : (kS 0).Nodup := by decide +kernel
set_option maxRecDepth 100000 in
theorem kS_nd1 : (kS 1).Nodup := by decide +kernel
abbrev ss_A : Type := Nat → Nat → Nat → Nat
abbrev ad (A : ss_A) (k : ss_K) : Nat := A k.1 k.2.1 k.2.2
def cO (A : ss_A) (σ : ss_M) (c o : Nat) : List Value := match c with
  | 0 => [.long (sL σ 0), .long (sL σ 1), .ref (A 3 0 0), .ref (A 3 1 0)]
  | 1 => [.int (sG σ 0 o), .int (sG σ 1 o), .ref (A 1 0 o), .ref (A 1 1 o)]
  | 2 => [.int (sG σ 2 o), .ref (A 1 2 0), .ref (A 1 3 0), .ref (A 2 0 0)]
  | 3 => [.int (sG σ 3 o), .int (sG σ 4 o), .int (sG σ 5 o), .int (sG σ 6 o), .int (sG σ 7 o), .ref (A 1 4 o), .ref (A 0 1 o), .ref (A 1 5 o), .ref (A 4 0 o)]
  | 4 => [.ref (A 4 2 0), .ref (A 4 3 0), .ref (A 4 4 0), .ref (A 1 9 0), .ref (A 1 10 0)]
  | 5 => [.int (sG σ 8 o), .int (sG σ 9 o), .ref (A 1 11 0), .ref (A 1 12 0), .ref (A 1 13 0), .ref (A 1 14 0), .int (sG σ 10 o), .int (sG σ 11 o), .int (sG σ 12 o), .int (sG σ 13 o)]
  | 6 => [.ref (A 0 3 0), .ref (A 0 3 1), .ref (A 4 1 0), .ref (A 2 1 0), .ref (A 0 5 0), .ref (A 0 4 0), .ref (A 0 2 0), .ref (A 0 0 0), .ref (A 1 15 0), .int (sG σ 14 o), .int (sG σ 15 o), .int (sG σ 16 o)]
  | 7 => [.ref (A 1 16 0), .int (sG σ 17 o), .int (sG σ 18 o), .int (sG σ 19 o), .int (sG σ 20 o), .int (sG σ 21 o), .ref (A 1 17 0), .ref (A 1 18 0), .ref (A 1 19 0), .int (sG σ 22 o), .ref (A 1 20 0), .ref (A 1 21 0), .int (sG σ 23 o), .int (sG σ 24 o), .int (sG σ 25 o), .int (sG σ 26 o), .ref (A 1 22 0), .ref (A 1 23 0), .int (sG σ 27 o), .ref (A 1 24 0), .ref (A 1 25 0), .ref (A 1 26 0), .ref (A 1 27 0), .ref (A 1 28 0), .ref (A 1 29 0), .ref (A 1 30 0), .long (sL σ 2), .long (sL σ 3), .ref (A 3 2 0), .ref (A 3 3 0), .ref (A 1 31 0), .long (sL σ 4)]
  | _ => []
def cR (Y : Nat → ClassId) (A : ss_A) (τ : (Nat → Nat → Nat → Int32) × (Nat → Int64) × (Nat → Nat → Int64) × (Nat → Nat → Nat)) (t c o : Nat) : ClassId × vp_A := match t with
  | 1 => (Y 0, alen c, .inl (τ.1 c o))
  | 2 => (Y 2, zlen c, .inl (τ.1 (c + 100) o))
  | 3 => (Y 1, 31, .inr (.inl (τ.2.2.1 c)))
  | _ => match c with
    | 0 => (Y 3, 8, .inr (.inr (.inr (.inr (fun i => some (A 0 1 (τ.2.2.2 o i)))))))
    | 1 => (Y 4, 2, .inr (.inr (.inr (.inr (fun i => some (A 0 3 (2 + i)))))))
    | 2 => (Y 5, 13, .inr (.inr (.inr (.inr (fun i => some (A 1 6 i))))))
    | 3 => (Y 5, 13, .inr (.inr (.inr (.inr (fun i => some (A 1 7 i))))))
    | _ => (Y 5, 12, .inr (.inr (.inr (.inr (fun i => some (A 1 8 i))))))
def cE (Y : Nat → ClassId) (A : ss_A) (σ : ss_M) (k : ss_K) : va_E := if k.1 = 0 then .inr (k.2.1, cO A σ k.2.1 k.2.2) else .inl (cR Y A σ.2 k.1 k.2.1 k.2.2)
theorem cE_o (Y : Nat → ClassId) (A : ss_A) (σ : ss_M) (c o : Nat) : cE Y A σ (0, c, o) = .inr (c, cO A σ c o) := if_pos rfl
theorem cE_r (Y : Nat → ClassId) (A : ss_A) (σ : ss_M) {t : Nat} (ht : t ≠ 0) (c o : Nat) : cE Y A σ (t, c, o) = .inl (cR Y A σ.2 t c o) := if_neg ht
def wsO (w : Nat) (Y : Nat → ClassId) (A : ss_A) (σ : ss_M) : va_W := (kS w).map fun k => (ad A k, cE Y A σ k)
abbrev tyL (Y : Nat → ClassId) : List (ClassId × FieldType) := [(Y 0, .int), (Y 1, .long), (Y 2, .boolean), (Y 3, .object "SoldStops$Marks"), (Y 4, .object "SoldStops$Page"), (Y 5, .array .int)]
def FA (w : Nat) (A : ss_A) : Nat → Prop := fun q => ∃ k ∈ kS w, q = ad A k
/-- the cells of a side have addresses of their own -/
def AD (w : Nat) (A : ss_A) : Prop := (kS w).Nodup ∧ ∀ k ∈ kS w, ∀ k' ∈ kS w, ad A k = ad A k' → k = k'
theorem ws_at {w : Nat} {Y : Nat → ClassId} {A : ss_A} (σ : ss_M) {k : ss_K} (hk : k ∈ kS w) : ∃ q0 : Nat, (kS w)[q0]? = some k ∧ (wsO w Y A σ)[q0]? = some (ad A k, cE Y A σ k) := by
  obtain ⟨q0, h⟩ := List.getElem?_of_mem hk
  exact ⟨q0, h, by simp [wsO, h]⟩
theorem ws_of {w : Nat} {Y : Nat → ClassId} {A : ss_A} {σ : ss_M} {i : Nat} {x : Nat × va_E} (h : (wsO w Y A σ)[i]? = some x) : ∃ k, (kS w)[i]? = some k ∧ k ∈ kS w ∧ x = (ad A k, cE Y A σ k) := by
  unfold wsO at h
  rw [List.getElem?_map] at h
  cases hk : (kS w)[i]? with
  | none => rw [hk] at h; cases h
  | some k => rw [hk] at h; cases h; exact ⟨k, rfl, List.mem_of_getElem? hk, rfl⟩
theorem ws_D {w : Nat} {A : ss_A} (h : AD w A) (Y : Nat → ClassId) (σ : ss_M) : va_D (FA w A) (wsO w Y A σ) := by
  refine ⟨fun i j p q hi hj he => ?_, fun k q hq => ?_⟩
  · obtain ⟨k1, g1, m1, rfl⟩ := ws_of hi
    obtain ⟨k2, g2, m2, rfl⟩ := ws_of hj
    have := h.2 k1 m1 k2 m2 he
    subst this
    exact (List.getElem?_inj (List.getElem?_eq_some_iff.mp g1).1 h.1).mp (g1.trans g2.symm)
  · obtain ⟨k1, g1, m1, rfl⟩ := ws_of hq
    exact ⟨k1, m1, rfl⟩
theorem ws_put {w : Nat} {Y : Nat → ClassId} {A : ss_A} {σ σ' : ss_M} {q0 : Nat} {k : ss_K} {e : va_E} (nd : (kS w).Nodup) (hq : (kS w)[q0]? = some k) (h1 : cE Y A σ' k = e) (h2 : ∀ j ∈ kS w, j ≠ k → cE Y A σ' j = cE Y A σ j) : (wsO w Y A σ).set q0 (ad A k, e) = wsO w Y A σ' := by
  have hl := (List.getElem?_eq_some_iff.mp hq).1
  apply List.ext_getElem?
  intro i
  by_cases hi : i = q0
  · subst hi
    rw [List.getElem?_set_self (by simpa [wsO] using hl)]
    simp [wsO, hq, h1]
  · rw [List.getElem?_set_ne (Ne.symm hi)]
    unfold wsO
    rw [List.getElem?_map, List.getElem?_map]
    cases hk : (kS w)[i]? with
    | none => rfl
    | some j =>
      have hj : j ≠ k := fun z => hi ((List.getElem?_inj (List.getElem?_eq_some_iff.mp hk).1 nd).mp (by rw [hk, hq, z]))
      simp [h2 j (List.mem_of_getElem? hk) hj]
abbrev lenW : List Nat := [4, 4, 4]
abbrev bytW : List (List Int32) := [[112, 97, 103, 101], [119, 111, 114, 100], [109, 97, 114, 107]]
/-- the String constants and statics that the class reads: they lie outside its own cells, and stay -/
def EX (w : Nat) (A : ss_A) (U : State) : Prop := w = 0 → vk_S 3 lenW bytW (A 5 0) (A 5 1) (FA 0 A) U U.heap ∧ vk_R RX6 64 "page" (A 5 0 0) U ∧ vk_R RX6 70 "word" (A 5 0 1) U ∧ vk_R RX6 72 "mark" (A 5 0 2) U ∧ va_Z "java/lang/String" "COMPACT_STRINGS" "Z" (.int 1) (FA 0 A) U U.heap ∧ ∃ v, va_Z "jdk/internal/util/Preconditions" "SIOOBE_FORMATTER" "Ljava/util/function/BiFunction;" (va_rf v) (FA 0 A) U U.heap
theorem EX.next {w : Nat} {A : ss_A} {s U : State} {locs : List Loc} (h : EX w A s) (hw : s.WarmedH U.vm) (hS : va_S (FA w A) s.heap U.heap locs) : EX w A U := by
  intro h0
  subst h0
  obtain ⟨h1, h2, h3, h4, h5, v, h6⟩ := h rfl
  exact ⟨(h1.kept hS.2.1).moved hw.alike, vk_R.warm hw h2, vk_R.warm hw h3, vk_R.warm hw h4, (h5.kept hS.2.1).moved hw.alike, v, (h6.kept hS.2.1).moved hw.alike⟩
/-- a side's world, at a heap -/
def sW (w : Nat) (D : va_G) (Y : Nat → ClassId) (A : ss_A) (σ : ss_M) (s : State) (H0 H : Heap) (locs : List Loc) : Prop := AD w A ∧ va_K D vwCl (tyL Y) s ∧ va_P D vwCl (wsO w Y A σ) H ∧ va_S (FA w A) H0 H locs ∧ EX w A s
/-- a side's world, in a state -/
def WB (w : Nat) (D : va_G) (Y : Nat → ClassId) (A : ss_A) (σ : ss_M) (U : State) : Prop := va_K D vwCl (tyL Y) U ∧ va_P D vwCl (wsO w Y A σ) U.heap ∧ EX w A U
abbrev Pc0 (w : Nat) (D : va_G) (Y : Nat → ClassId) (A : ss_A) (σ : ss_M) (av : List Value) : Array Value → State → Prop := va_Pc av (WB w D Y A σ)
abbrev Qi0 (w : Nat) (D : va_G) (Y : Nat → ClassId) (A : ss_A) (r : Int32) (σ' : ss_M) : Array Value → State → Outcome → State → Prop := va_Qi (fun (x : Int32) (u : ss_M) => x = r ∧ u = σ') (fun u t => WB w D Y A u t) (FA w A)
abbrev Ql0 (w : Nat) (D : va_G) (Y : Nat → ClassId) (A : ss_A) (r : Int64) (σ' : ss_M) : Array Value → State → Outcome → State → Prop := va_Ql (fun (x : Int64) (u : ss_M) => x = r ∧ u = σ') (fun u t => WB w D Y A u t) (FA w A)
abbrev Qv0 (w : Nat) (D : va_G) (Y : Nat → ClassId) (A : ss_A) (σ' : ss_M) : Array Value → State → Outcome → State → Prop := va_Qv (fun (u : ss_M) => u = σ') (fun u t => WB w D Y A u t) (FA w A)
theorem lt_obj (A : ss_A) {σ σ' : ss_M} (h1 : σ'.1 = σ.1) (h2 : σ'.2.2.1 = σ.2.2.1) (c o : Nat) : cO A σ' c o = cO A σ c o := by
  have e1 : ∀ f o, sG σ' f o = sG σ f o := fun f o => congrFun (congrFun h1 f) o
  have e2 : ∀ f, sL σ' f = sL σ f := fun f => congrFun h2 f
  unfold cO
  simp only [e1, e2]
/-- an int row of a side is put anew -/
theorem cg_A {w : Nat} {Y : Nat → ClassId} {A : ss_A} {σ : ss_M} {c o : Nat} (hk : (1, c, o) ∈ kS w) (v : Nat → Int32) : ∀ j ∈ kS w, j ≠ (1, c, o) → cE Y A (sAu σ c o v) j = cE Y A σ j := by
  intro j hj hne
  obtain ⟨t, c', o'⟩ := j
  have hc := (kS_mem.mp hk).2.1
  match t with
  | 0 => rw [cE_o, cE_o, lt_obj A (σ := σ) (σ' := sAu σ c o v) rfl rfl]
  | 1 =>
    rw [cE_r _ _ _ (by decide), cE_r _ _ _ (by decide)]
    have : ¬ (c' = c ∧ o' = o) := fun q => hne (by rw [q.1, q.2])
    simp [cR, sAu, this]
  | 2 =>
    rw [cE_r _ _ _ (by decide), cE_r _ _ _ (by decide)]
    have : ¬ (c' + 100 = c ∧ o' = o) := fun q => by omega
    simp [cR, sAu, this]
  | 3 => rfl
  | (n + 4) => rfl
theorem cg_Z {w : Nat} {Y : Nat → ClassId} {A : ss_A} {σ : ss_M} {c o : Nat} (v : Nat → Int32) : ∀ j ∈ kS w, j ≠ (2, c, o) → cE Y A (sAu σ (c + 100) o v) j = cE Y A σ j := by
  intro j hj hne
  obtain ⟨t, c', o'⟩ := j
  have hc' := (kS_mem.mp hj).2.1
  match t with
  | 0 => rw [cE_o, cE_o, lt_obj A (σ := σ) (σ' := sAu σ (c + 100) o v) rfl rfl]
  | 2 =>
    rw [cE_r _ _ _ (by decide), cE_r _ _ _ (by decide)]
    have : ¬ (c' = c ∧ o' = o) := fun q => hne (by rw [q.1, q.2])
    simp [cR, sAu, this]
  | 1 =>
    rw [cE_r _ _ _ (by decide), cE_r _ _ _ (by decide)]
    have : ¬ (c' = c + 100 ∧ o' = o) := fun q => by omega
    simp [cR, sAu, this]
  | 3 => rfl
  | (n + 4) => rfl
theorem cn3 {w c o : Nat} (h : o < cn w 3 c) : o = 0 := by
  have h1 : cn w 3 c ≤ 1 := by
    by_cases hw : w = 0
    · subst hw
      match c with
      | 0 => decide
      | 1 => decide
      | (n + 2) => exact Nat.zero_le _
    · unfold cn
      rw [if_neg hw]
      match c with
      | 0 => decide
      | 1 => decide
      | 2 => decide
      | 3 => decide
      | (n + 4) => exact Nat.zero_le _
  omega
theorem cg_L {w : Nat} {Y : Nat → ClassId} {A : ss_A} {σ : ss_M} {c : Nat} (v : Nat → Int64) : ∀ j ∈ kS w, j ≠ (3, c, 0) → cE Y A (sBu σ c v) j = cE Y A σ j := by
  intro j hj hne
  obtain ⟨t, c', o'⟩ := j
  have hc' := (kS_mem.mp hj).2.2
  match t with
  | 0 => rw [cE_o, cE_o, lt_obj A (σ := σ) (σ' := sBu σ c v) rfl rfl]
  | 1 => rfl
  | 2 => rfl
  | 3 =>
    have h0 := cn3 hc'
    rw [cE_r _ _ _ (by decide), cE_r _ _ _ (by decide)]
    have : ¬ c' = c := fun q => hne (by rw [q, h0])
    simp [cR, sBu, this]
  | (n + 4) => rfl
theorem cg_R {w : Nat} {Y : Nat → ClassId} {A : ss_A} {σ : ss_M} {p : Nat} (v : Nat → Nat) : ∀ j ∈ kS w, j ≠ (4, 0, p) → cE Y A (sRu σ p v) j = cE Y A σ j := by
  intro j hj hne
  obtain ⟨t, c', o'⟩ := j
  match t with
  | 0 => rw [cE_o, cE_o, lt_obj A (σ := σ) (σ' := sRu σ p v) rfl rfl]
  | 1 => rfl
  | 2 => rfl
  | 3 => rfl
  | (n + 4) =>
    rw [cE_r _ _ _ (by omega), cE_r _ _ _ (by omega)]
    by_cases h0 : c' = 0
    · subst h0
      by_cases hp : o' = p
      · subst hp
        have ht := (kS_mem.mp hj).1
        have : n = 0 := by omega
        subst this
        exact absurd rfl hne
      · simp [cR, sRu, hp]
    · match c', h0 with
      | 0, h0 => exact absurd rfl h0
      | 1, _ => cases n <;> rfl
      | 2, _ => cases n <;> rfl
      | 3, _ => cases n <;> rfl
      | (k + 4), _ => cases n <;> rfl
