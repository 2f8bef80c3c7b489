/-! THE LAW FROM ITS ENTRY (laid by wip/gen/law3.py) -/
theorem df_X7 : ∀ j, j < 12 → defaultValue (tyX7 j) = vp_V [.null, .null, .null, .null, .null, .null, .null, .null, .null, .int 0, .int 0, .int 0] j := fun j hj => match j, hj with
  | 0, _ => rfl
  | 1, _ => rfl
  | 2, _ => rfl
  | 3, _ => rfl
  | 4, _ => rfl
  | 5, _ => rfl
  | 6, _ => rfl
  | 7, _ => rfl
  | 8, _ => rfl
  | 9, _ => rfl
  | 10, _ => rfl
  | 11, _ => rfl
  | (j + 12), h => absurd h (by omega)
theorem df_X8 : ∀ j, j < 32 → defaultValue (tyX8 j) = vp_V [.null, .int 0, .int 0, .int 0, .int 0, .int 0, .null, .null, .null, .int 0, .null, .null, .int 0, .int 0, .int 0, .int 0, .null, .null, .int 0, .null, .null, .null, .null, .null, .null, .null, .long 0, .long 0, .null, .null, .null, .long 0] j := fun j hj => match j, hj with
  | 0, _ => rfl
  | 1, _ => rfl
  | 2, _ => rfl
  | 3, _ => rfl
  | 4, _ => rfl
  | 5, _ => rfl
  | 6, _ => rfl
  | 7, _ => rfl
  | 8, _ => rfl
  | 9, _ => rfl
  | 10, _ => rfl
  | 11, _ => rfl
  | 12, _ => rfl
  | 13, _ => rfl
  | 14, _ => rfl
  | 15, _ => rfl
  | 16, _ => rfl
  | 17, _ => rfl
  | 18, _ => rfl
  | 19, _ => rfl
  | 20, _ => rfl
  | 21, _ => rfl
  | 22, _ => rfl
  | 23, _ => rfl
  | 24, _ => rfl
  | 25, _ => rfl
  | 26, _ => rfl
  | 27, _ => rfl
  | 28, _ => rfl
  | 29, _ => rfl
  | 30, _ => rfl
  | 31, _ => rfl
  | (j + 32), h => absurd h (by omega)
theorem ar_i {args : Array Value} {s : State} (h : (Cond.arrayClass .int).before args s = true) : ∃ cA : ClassId, ArrOfT s cA .int ∧ va_RA s cA .int := by
  obtain ⟨c, k, comp, h1, h2, h3⟩ := Cond.arrayClass_spec h
  exact ⟨c, fun n z => ⟨fun k h => (by cases h), k, h2, comp, h3⟩, h1⟩
theorem ar_l {args : Array Value} {s : State} (h : (Cond.arrayClass .long).before args s = true) : ∃ cA : ClassId, ArrOfT s cA .long ∧ va_RA s cA .long := by
  obtain ⟨c, k, comp, h1, h2, h3⟩ := Cond.arrayClass_spec h
  exact ⟨c, fun n z => ⟨fun k h => (by cases h), k, h2, comp, h3⟩, h1⟩
theorem ar_z {args : Array Value} {s : State} (h : (Cond.arrayClass .boolean).before args s = true) : ∃ cA : ClassId, ArrOfT s cA .boolean ∧ va_RA s cA .boolean := by
  obtain ⟨c, k, comp, h1, h2, h3⟩ := Cond.arrayClass_spec h
  exact ⟨c, fun n z => ⟨fun k h => (by cases h), k, h2, comp, h3⟩, h1⟩
theorem ar_o {args : Array Value} {s : State} {n : String} (h : (Cond.arrayOver (.object n)).before args s = true) : ∃ cA : ClassId, ArrOfT s cA (.object n) ∧ va_RA s cA (.object n) := by
  obtain ⟨comp, c, k, h1, h2, h3, h4, h5⟩ := Cond.arrayOver_spec h
  exact ⟨c, fun n z => ⟨fun k h => (by cases h), k, h3, comp, h4⟩, k, comp, h3, h4, h1, h5⟩
theorem ar_a {args : Array Value} {s : State} (h : (Cond.arrayOver (.array .int)).before args s = true) : ∃ cA : ClassId, ArrOfT s cA (.array .int) ∧ va_RA s cA (.array .int) := by
  obtain ⟨comp, c, k, h1, h2, h3, h4⟩ := Cond.arrayOver_specA h
  exact ⟨c, fun n z => ⟨fun k h => (by cases h), k, h2, comp, h3⟩, h4⟩
/-- the three String constants -/
def sTm (i : Nat) : Term := match i with
  | 0 => .string "SoldStops$Text" 64
  | 1 => .string "SoldStops$Text" 70
  | _ => .string "SoldStops$Text" 72
set_option maxRecDepth 100000 in
theorem lw_strs {args : Array Value} {s : State} (hg : ∀ c ∈ flatC (Jvm.Cond.and given_1 narrow_1), c.before args s = true) : ∃ sK sV : Nat → Nat, vk_S 3 lenW bytW sK sV (fun q => s.heap.size ≤ q) s s.heap ∧ ∀ i : Nat, i < 3 → (sTm i).eval args s none [] s = some (.ref (sK i)) := by
  refine vk_Sof (N := 3) (tm := sTm) (len := lenW) (byt := bytW) ?_ ?_ ?_ ?_ ?_ ?_ ?_ (fun a h => Nat.not_le.mpr h)
  · intro i hi
    match i, hi with
    | 0, _ => decide
    | 1, _ => decide
    | 2, _ => decide
  · intro i hi
    match i, hi with
    | 0, _ => exact hg _ (by decide +kernel)
    | 1, _ => exact hg _ (by decide +kernel)
    | 2, _ => exact hg _ (by decide +kernel)
  · intro i hi
    match i, hi with
    | 0, _ => exact hg _ (by decide +kernel)
    | 1, _ => exact hg _ (by decide +kernel)
    | 2, _ => exact hg _ (by decide +kernel)
  · intro i hi
    match i, hi with
    | 0, _ => exact hg _ (by decide +kernel)
    | 1, _ => exact hg _ (by decide +kernel)
    | 2, _ => exact hg _ (by decide +kernel)
  · intro i hi
    match i, hi with
    | 0, _ => exact hg _ (by decide +kernel)
    | 1, _ => exact hg _ (by decide +kernel)
    | 2, _ => exact hg _ (by decide +kernel)
  · intro i hi j hj
    match i, hi, j, hj with
    | 0, _, 0, _ => exact hg _ (by decide +kernel)
    | 0, _, 1, _ => exact hg _ (by decide +kernel)
    | 0, _, 2, _ => exact hg _ (by decide +kernel)
    | 0, _, 3, _ => exact hg _ (by decide +kernel)
    | 0, _, (j + 4), h => exact absurd h (by show ¬ j + 4 < 4; omega)
    | 1, _, 0, _ => exact hg _ (by decide +kernel)
    | 1, _, 1, _ => exact hg _ (by decide +kernel)
    | 1, _, 2, _ => exact hg _ (by decide +kernel)
    | 1, _, 3, _ => exact hg _ (by decide +kernel)
    | 1, _, (j + 4), h => exact absurd h (by show ¬ j + 4 < 4; omega)
    | 2, _, 0, _ => exact hg _ (by decide +kernel)
    | 2, _, 1, _ => exact hg _ (by decide +kernel)
    | 2, _, 2, _ => exact hg _ (by decide +kernel)
    | 2, _, 3, _ => exact hg _ (by decide +kernel)
    | 2, _, (j + 4), h => exact absurd h (by show ¬ j + 4 < 4; omega)
  · intro i j hi hj hij
    match i, hi, j, hj, hij with
    | 0, _, 0, _, h => exact absurd rfl h
    | 0, _, 1, _, _ => exact Or.inl (hg _ (by decide +kernel))
    | 0, _, 2, _, _ => exact Or.inl (hg _ (by decide +kernel))
    | 1, _, 0, _, _ => exact Or.inr (hg _ (by decide +kernel))
    | 1, _, 1, _, h => exact absurd rfl h
    | 1, _, 2, _, _ => exact Or.inl (hg _ (by decide +kernel))
    | 2, _, 0, _, _ => exact Or.inr (hg _ (by decide +kernel))
    | 2, _, 1, _, _ => exact Or.inr (hg _ (by decide +kernel))
    | 2, _, 2, _, h => exact absurd rfl h
/-- what the class reads outside its own cells -/
theorem lw_ex {b : Nat} {s : State} {A : ss_A} {sK sV : Nat → Nat} (hts : ∀ w ∈ lw_tbl, w.before #[Value.ref b] s = true) (hg : ∀ c ∈ flatC (Jvm.Cond.and given_1 narrow_1), c.before #[Value.ref b] s = true) (hS : vk_S 3 lenW bytW sK sV (fun q => s.heap.size ≤ q) s s.heap) (hR : ∀ i : Nat, i < 3 → (sTm i).eval #[Value.ref b] s none [] s = some (.ref (sK i))) (eK : A 5 0 = sK) (eV : A 5 1 = sV) (hF : ∀ q, FA 0 A q → s.heap.size ≤ q) : EX 0 A s := by
  intro _
  rw [eK, eV]
  have hn : ∀ a : Nat, a < s.heap.size → ¬ (fun q : Nat => s.heap.size ≤ q) a := fun a h => Nat.not_le.mpr h
  refine ⟨hS.narrow hF, vk_R.of (hts (.stringRef RX6 64 "page") (mt2 119 rfl)) (hR 0 (by decide)), vk_R.of (hts (.stringRef RX6 70 "word") (mt2 172 rfl)) (hR 1 (by decide)), vk_R.of (hts (.stringRef RX6 72 "mark") (mt2 173 rfl)) (hR 2 (by decide)), (va_Zof (hts (.laysStatic "java/lang/String" "COMPACT_STRINGS" "Z") (mt2 133 rfl)) (hts (.initialized "java/lang/String") (mt1 10 rfl)) (va_eqt (hg _ (by decide +kernel))) hn).narrow hF, ?_⟩
  have h := va_Zqof (A := fun q : Nat => s.heap.size ≤ q) (hts (.laysStatic "jdk/internal/util/Preconditions" "SIOOBE_FORMATTER" "Ljava/util/function/BiFunction;") (mt2 149 rfl)) (hts (.initialized "jdk/internal/util/Preconditions") (mt1 12 rfl)) (hg _ (by decide +kernel)) hn
  rcases h with h | ⟨t, h⟩
  · exact ⟨none, h.narrow hF⟩
  · exact ⟨some t, h.narrow hF⟩
theorem lw_preC {b : Nat} {s : State} (hts : ∀ w ∈ lw_tbl, w.before #[Value.ref b] s = true) : preC s :=
  ⟨⟨va_Nw.of rfl (hts (.methodLinkNest RX4 24 yX2_init "SoldStops") (mt1 33 rfl)), va_Nw.of rfl (hts (.methodLinkNest RX7 29 yX6_init "SoldStops") (mt1 111 rfl)), va_Nw.of rfl (hts (.methodLinkNest RX7 36 yX5_init "SoldStops") (mt1 154 rfl)), va_Nw.of rfl (hts (.methodLinkNest RX7 43 yX3_init "SoldStops") (mt1 178 rfl)), va_Nw.of rfl (hts (.methodLinkNest RX7 50 yX0_init "SoldStops") (mt1 199 rfl))⟩, va_AO.of (A := #[Value.ref b]) (hts (.arrayOver (.object RX2)) (mt1 60 rfl)), va_AO.of (A := #[Value.ref b]) (hts (.arrayOver (.object RX4)) (mt1 108 rfl)), (hts (.arrayOver (.array .int)) (mt1 159 rfl))⟩
/-- the classes, as the tables have them -/
theorem lw_K {b : Nat} {s : State} (hts : ∀ w ∈ lw_tbl, w.before #[Value.ref b] s = true) : ∃ (D : va_G) (Y : Nat → ClassId), va_K D vwCl (tyL Y) s := by
  obtain ⟨c0, i0, k0⟩ := u_known (C := RX0) (T := TX0) (N := 4) (n := 4) hts inX0 (hts (.instantiable RX0 4) (mt1 198 rfl))
  obtain ⟨c1, i1, k1⟩ := u_known (C := RX2) (T := TX2) (N := 4) (n := 4) hts inX2 (hts (.instantiable RX2 4) (mt1 32 rfl))
  obtain ⟨c2, i2, k2⟩ := u_known (C := RX3) (T := TX3) (N := 4) (n := 4) hts inX3 (hts (.instantiable RX3 4) (mt1 177 rfl))
  obtain ⟨c3, i3, k3⟩ := u_known (C := RX4) (T := TX4) (N := 9) (n := 9) hts inX4 (hts (.instantiable RX4 9) (mt1 26 rfl))
  obtain ⟨c4, i4, k4⟩ := u_known (C := RX5) (T := TX5) (N := 5) (n := 5) hts inX5 (hts (.instantiable RX5 5) (mt1 153 rfl))
  obtain ⟨c5, i5, k5⟩ := u_known (C := RX6) (T := TX6) (N := 10) (n := 10) hts inX6 (hts (.instantiable RX6 10) (mt1 110 rfl))
  obtain ⟨c6, i6, k6⟩ := u_known (C := RX7) (T := TX7) (N := 12) (n := 12) hts inX7 (hts (.instantiable RX7 12) (mt1 18 rfl))
  obtain ⟨c7, i7, k7⟩ := u_known (C := RX8) (T := TX8) (N := 32) (n := 32) hts inX8 (hts (.instantiable RX8 32) (mt4 10 rfl))
  obtain ⟨y0, a0⟩ := ar_i (hts (.arrayClass .int) (mt1 59 rfl))
  obtain ⟨y1, a1⟩ := ar_l (hts (.arrayClass .long) (mt1 218 rfl))
  obtain ⟨y2, a2⟩ := ar_z (hts (.arrayClass .boolean) (mt1 151 rfl))
  obtain ⟨y3, a3⟩ := ar_o (hts (.arrayOver (.object RX2)) (mt1 60 rfl))
  obtain ⟨y4, a4⟩ := ar_o (hts (.arrayOver (.object RX4)) (mt1 108 rfl))
  obtain ⟨y5, a5⟩ := ar_a (hts (.arrayOver (.array .int)) (mt1 159 rfl))
  refine ⟨(fun k => match k with | 0 => c0 | 1 => c1 | 2 => c2 | 3 => c3 | 4 => c4 | 5 => c5 | 6 => c6 | _ => c7, fun k => match k with | 0 => i0 | 1 => i1 | 2 => i2 | 3 => i3 | 4 => i4 | 5 => i5 | 6 => i6 | _ => i7), fun k => match k with | 0 => y0 | 1 => y1 | 2 => y2 | 3 => y3 | 4 => y4 | _ => y5, fun k q hq => ?_, fun k q hq => ?_⟩
  · match k, hq with
    | 0, hq => cases hq; exact k0
    | 1, hq => cases hq; exact k1
    | 2, hq => cases hq; exact k2
    | 3, hq => cases hq; exact k3
    | 4, hq => cases hq; exact k4
    | 5, hq => cases hq; exact k5
    | 6, hq => cases hq; exact k6
    | 7, hq => cases hq; exact k7
    | k + 8, hq => exact absurd hq (by show ¬ ([] : List vw_C)[k]? = some q; simp)
  · match k, hq with
    | 0, hq => cases hq; exact a0
    | 1, hq => cases hq; exact a1
    | 2, hq => cases hq; exact a2
    | 3, hq => cases hq; exact a3
    | 4, hq => cases hq; exact a4
    | 5, hq => cases hq; exact a5
    | k + 6, hq => exact absurd hq (by show ¬ ([] : List (ClassId × FieldType))[k]? = some q; simp)
