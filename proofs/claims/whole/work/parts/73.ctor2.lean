/-! CONSTRUCTORS: Page, Plan (laid by wip/gen/ctor2.py) -/
theorem df_X2 : ∀ j, j < 4 → defaultValue (tyX2 j) = vp_V [.int 0, .int 0, .null, .null] j := fun j hj => match j, hj with
  | 0, _ => rfl
  | 1, _ => rfl
  | 2, _ => rfl
  | 3, _ => rfl
  | (j + 4), h => absurd h (by omega)
/-- a row of references, as a cell -/
abbrev qE (c : ClassId) (n : Nat) (f : Nat → Option Nat) : va_E := .inl (c, n, .inr (.inr (.inr (.inr f))))
abbrev iE (Y : Nat → ClassId) (n : Nat) : va_E := .inl (Y 0, n, .inl (fun _ => 0))
theorem qE_P {D : va_G} {cl : List vw_C} {a b : va_W} {q : Nat} {c : ClassId} {n : Nat} {f g : Nat → Option Nat} {H : Heap} (h : va_P D cl (a ++ (q, qE c n f) :: b) H) (hfg : ∀ i, i < n → f i = g i) : va_P D cl (a ++ (q, qE c n g) :: b) H := by
  have e : vp_cell c (n, .inr (.inr (.inr (.inr f)))) = vp_cell c (n, .inr (.inr (.inr (.inr g)))) := by
    rw [vp_cell_q, vp_cell_q]
    unfold arrV
    congr 1
    congr 1
    funext j
    show va_rf (f j.val) = va_rf (g j.val)
    rw [hfg j.val j.isLt]
  intro k x hx
  rcases List.mem_append.mp (List.mem_of_getElem? hx) with m | m
  · obtain ⟨i, hi⟩ := List.getElem?_of_mem m
    exact va_Pl h i x hi
  · rcases List.mem_cons.mp m with rfl | m
    · have h1 := h a.length (q, qE c n f) va_lastc
      exact h1.trans (congrArg some e)
    · obtain ⟨i, hi⟩ := List.getElem?_of_mem m
      exact va_Pr (a := [(q, qE c n f)]) (va_Pr h) i x hi
/-- addresses alone count for being apart -/
theorem va_Da {A : Nat → Prop} {ws ws' : va_W} (h : va_D A ws) (e : ws'.map Prod.fst = ws.map Prod.fst) : va_D A ws' := by
  have key : ∀ (i : Nat) (x : Nat × va_E), ws'[i]? = some x → ∃ y, ws[i]? = some y ∧ y.1 = x.1 := fun i x hx => by
    have h1 : (ws'.map Prod.fst)[i]? = some x.1 := by rw [List.getElem?_map, hx]; rfl
    rw [e, List.getElem?_map] at h1
    cases hy : ws[i]? with
    | none => rw [hy] at h1; cases h1
    | some y => rw [hy] at h1; exact ⟨y, rfl, Option.some.inj h1⟩
  refine ⟨fun i j x y hi hj hxy => ?_, fun k x hk => ?_⟩
  · obtain ⟨x', a1, a2⟩ := key i x hi
    obtain ⟨y', b1, b2⟩ := key j y hj
    exact h.1 i j x' y' a1 b1 (by rw [a2, b2, hxy])
  · obtain ⟨x', a1, a2⟩ := key k x hk
    rw [← a2]
    exact h.2 k x' a1
theorem qE_D {A : Nat → Prop} {a b : va_W} {q : Nat} {c : ClassId} {n : Nat} {f g : Nat → Option Nat} (h : va_D A (a ++ (q, qE c n f) :: b)) : va_D A (a ++ (q, qE c n g) :: b) := va_Da h (by simp)
def mkL (Y : Nat → ClassId) (n : Nat) (a : Nat → Nat × Nat × Nat) : va_W := (List.range n).flatMap fun j => mW Y (a j).1 (a j).2.1 (a j).2.2
theorem mkL_0 (Y : Nat → ClassId) (a : Nat → Nat × Nat × Nat) : mkL Y 0 a = [] := rfl
theorem fm_congr {α β : Type} {l : List α} {f g : α → List β} (h : ∀ x ∈ l, f x = g x) : l.flatMap f = l.flatMap g := by
  rw [List.flatMap_def, List.flatMap_def, List.map_congr_left h]
theorem mkL_s (Y : Nat → ClassId) (n : Nat) (a : Nat → Nat × Nat × Nat) (q k r : Nat) : mkL Y n a ++ mW Y q k r = mkL Y (n + 1) (va_up a n (q, k, r)) := by
  unfold mkL
  rw [List.range_succ, List.flatMap_append]
  congr 1
  · refine fm_congr (fun j hj => ?_)
    rw [va_up_ne _ _ (by have := List.mem_range.mp hj; omega)]
  · simp [va_up_self]
def rfL (n : Nat) (a : Nat → Nat × Nat × Nat) : Nat → Option Nat := fun j => if j < n then some (a j).1 else none
theorem rfL_s (n : Nat) (a : Nat → Nat × Nat × Nat) (q k r : Nat) : va_up (rfL n a) n (some q) = rfL (n + 1) (va_up a n (q, k, r)) := by
  funext j
  unfold rfL va_up
  by_cases h : j = n
  · subst h
    simp
  · by_cases h2 : j < n
    · simp [h, h2, Nat.lt_succ_of_lt h2]
    · have : ¬ j < n + 1 := by omega
      simp [h, h2, this]
/-- a page's cells -/
abbrev pgS : Type := (Nat → Nat) × (Nat → Nat × Nat × Nat)
abbrev pgO (u : pgS) : List Value := [.int 10, .int 2, .int 0, .int 0, .int 0, .ref (u.1 0), .ref (u.1 1), .ref (u.1 4), .ref (u.1 5)]
def pgX (Y : Nat → ClassId) (u : Nat → Nat) : va_W := (u 0, iE Y 12) :: (mW Y (u 1) (u 2) (u 3) ++ [(u 4, iE Y 6)])
def pgW (Y : Nat → ClassId) (h : Nat) (u : pgS) : va_W := (h, .inr (3, pgO u)) :: (u.1 5, qE (Y 3) 8 (fun j => some (u.2 j).1)) :: (pgX Y u.1 ++ mkL Y 8 u.2)
set_option maxHeartbeats 4000000 in
set_option maxRecDepth 100000 in
theorem c_X4_init (l : Launch) (D : va_G) (Y : Nat → ClassId) (h sz : Nat) : Met l yX4_init wsX4_init { frames := 2, cells := 30, slots := 278, locals := 40 } (va_Pc [.ref h] (ctP D Y 3 [.int 0, .int 0, .int 0, .int 0, .int 0, .null, .null, .null, .null] h sz)) (va_Qv (fun _ : pgS => True) (ctQ D Y 3 [.int 0, .int 0, .int 0, .int 0, .int 0, .null, .null, .null, .null] h sz (fun u => pgW Y h u)) (va_A [(h, .inr (3, [.int 0, .int 0, .int 0, .int 0, .int 0, .null, .null, .null, .null]))] sz)) 30 278 (va_A [(h, .inr (3, [.int 0, .int 0, .int 0, .int 0, .int 0, .null, .null, .null, .null]))] sz) := by
  refine Met.ofW (cc := cX4_init) (maxL := 2) (ret := none) (by decide +kernel) rfl ?_
  intro p e s m args below meth c s₁ B hml hv
  obtain ⟨rfl, hsz, hP, hK, hD0, hC⟩ := hv
  have hx := B.exec
  have hb := B.bytes
  have hr := B.returns
  have hts := atoms_spec (ws := wsX4_init) B.pre
  have hown : s.vm.findClass RX4 = some m.cls := findClass_of_methodNamed B.named
  have hlocks := B.notSynchronized
  have hin : meth.name = "<init>" := (name_of_methodNamed B.named B.method).1
  subst hsz
  have hD := hD0.self (sz := s.heap.size)
  generalize hAe : va_A [(h, .inr (3, [.int 0, .int 0, .int 0, .int 0, .int 0, .null, .null, .null, .null]))] s.heap.size = A at hD ⊢
  have hA : ∀ q : Nat, s.heap.size ≤ q → A q := fun q z => by rw [← hAe]; exact Or.inr z
  have hS : va_S A s.heap s.heap [] := va_S.rf
  have hl := lv_entry ([.ref h]) (n := 2) (Nat.le_of_ble_eq_true rfl)
  rw [lg_entry_eq]
  generalize (lg_sl ([.ref h]) ++ List.replicate (2 - (lg_sl ([.ref h])).length) Slot.unset).toArray = ls at hl ⊢
  have hl : lv_has ls 2 [(0, .ref h)] := hl
  have iX : ∀ q ∈ wsX40, q ∈ wsX4_init := fun q h => List.mem_cons_of_mem _ (List.mem_append_left _ (List.mem_append_right _ (h)))
  have iX2 : ∀ q ∈ wsX20, q ∈ wsX4_init := fun q h => List.mem_cons_of_mem _ (List.mem_append_right _ (h))
  refine lv_aload_n hx hb dX4_init_0 rfl (lv_at hl 0 rfl) ?_
  refine W.objInit hx hb hown (hts (.methodLink RX4 3 objectInit) (List.mem_of_getElem? (i := 1) rfl)) (hts (.instanceMethod objectInit) (List.mem_of_getElem? (i := 2) rfl)) (hts _ (List.mem_of_getElem? (i := 3) rfl)) rfl (by rw [hml]; exact hl.1) rfl dX4_init_1 (Nat.le_of_ble_eq_true rfl) (Nat.le_of_ble_eq_true rfl) ?_
  refine W.eq (g2 := F0 m 4 ls []) rfl ?_
  have F := (⟨hx, hb, hml, hown, hts⟩ : CallFix p m c cX4_init 2 s _ wsX4_init RX4)
  refine lv_aload_n hx hb dX4_init_4 rfl (lv_at hl 0 rfl) ?_
  refine lv_bipush (v := 10) hx hb dX4_init_5 (by decide) ?_
  refine va_put (D := D) (ci := 3) (v := .int 10) (ty := .int) (C := RX4) (T := TX4) (N := 9) hx hb hts iX tyX4 tyX4_ok nmX4 hown hK hP hD hS 0 rfl rfl 0 (by decide) (hts (.fieldLink RX4 9 "SoldStops$Page" "breath" "I") (List.mem_of_getElem? (i := 4) rfl)) (fun _ h9 => h9) rfl (by decide +kernel) rfl rfl (Nat.le_of_ble_eq_true rfl) dX4_init_7 (fun H locs hP hD hS => ?_)
  have hP : va_P D vwCl [(h, .inr (3, [.int 10, .int 0, .int 0, .int 0, .int 0, .null, .null, .null, .null]))] H := hP
  have hD : va_D A [(h, .inr (3, [.int 10, .int 0, .int 0, .int 0, .int 0, .null, .null, .null, .null]))] := hD
  refine lv_aload_n hx hb dX4_init_10 rfl (lv_at hl 0 rfl) ?_
  refine lv_iconst (v := 2) hx hb dX4_init_11 (by decide) ?_
  refine va_put (D := D) (ci := 3) (v := .int 2) (ty := .int) (C := RX4) (T := TX4) (N := 9) hx hb hts iX tyX4 tyX4_ok nmX4 hown hK hP hD hS 0 rfl rfl 1 (by decide) (hts (.fieldLink RX4 15 "SoldStops$Page" "price" "I") (List.mem_of_getElem? (i := 5) rfl)) (fun _ h9 => h9) rfl (by decide +kernel) rfl rfl (Nat.le_of_ble_eq_true rfl) dX4_init_12 (fun H locs hP hD hS => ?_)
  have hP : va_P D vwCl [(h, .inr (3, [.int 10, .int 2, .int 0, .int 0, .int 0, .null, .null, .null, .null]))] H := hP
  have hD : va_D A [(h, .inr (3, [.int 10, .int 2, .int 0, .int 0, .int 0, .null, .null, .null, .null]))] := hD
  refine lv_aload_n hx hb dX4_init_15 rfl (lv_at hl 0 rfl) ?_
  refine lv_bipush (v := 12) hx hb dX4_init_16 (by decide) ?_
  refine nwI hx hb (hts (.arrayClass .int) (List.mem_of_getElem? (i := 6) rfl)) hK hP hD hS hA (by decide) (N' := 12) (by decide) (Nat.le_of_ble_eq_true rfl) (Nat.le_of_ble_eq_true rfl) (Nat.le_of_ble_eq_true rfl) dX4_init_18 (fun q0 H hP hD hS => ?_)
  have hP : va_P D vwCl [(h, .inr (3, [.int 10, .int 2, .int 0, .int 0, .int 0, .null, .null, .null, .null])), (q0, .inl (Y 0, 12, .inl (fun _ => 0)))] H := hP
  have hD : va_D A [(h, .inr (3, [.int 10, .int 2, .int 0, .int 0, .int 0, .null, .null, .null, .null])), (q0, .inl (Y 0, 12, .inl (fun _ => 0)))] := hD
  refine va_putF (D := D) (ci := 3) (v := .ref q0) (ty := .array .int) (C := RX4) (T := TX4) (N := 9) hx hb hts iX tyX4 tyX4_ok nmX4 hown hK hP hD hS 0 rfl rfl 5 (by decide) (hts (.fieldLink RX4 18 "SoldStops$Page" "lengths" "[I") (List.mem_of_getElem? (i := 7) rfl)) (fun _ h9 => h9) rfl hin rfl (by decide +kernel) rfl rfl (Nat.le_of_ble_eq_true rfl) dX4_init_20 (fun H locs hP hD hS => ?_)
  have hP : va_P D vwCl [(h, .inr (3, [.int 10, .int 2, .int 0, .int 0, .int 0, .ref q0, .null, .null, .null])), (q0, .inl (Y 0, 12, .inl (fun _ => 0)))] H := hP
  have hD : va_D A [(h, .inr (3, [.int 10, .int 2, .int 0, .int 0, .int 0, .ref q0, .null, .null, .null])), (q0, .inl (Y 0, 12, .inl (fun _ => 0)))] := hD
  refine lv_aload_n hx hb dX4_init_23 rfl (lv_at hl 0 rfl) ?_
  refine va_new (ci := 1) (fs := [.int 0, .int 0, .null, .null]) (C := RX2) (T := TX2) (N := 4) hx hb hts iX2 tyX2 tyX2_ok hown (hts (.classLink RX4 22 RX2) (List.mem_of_getElem? (i := 8) rfl)) (hts (.instantiable RX2 4) (List.mem_of_getElem? (i := 9) rfl)) (hts (.initialized RX2) (List.mem_of_getElem? (i := 10) rfl)) hK hP hD hS hA rfl df_X2 (Nat.le_of_ble_eq_true rfl) (Nat.le_of_ble_eq_true rfl) dX4_init_24 (fun q1 H hP hD hS => ?_)
  refine lv_dup hx hb dX4_init_27 rfl ?_
  refine cN (W0 := [(h, .inr (3, [.int 10, .int 2, .int 0, .int 0, .int 0, .ref q0, .null, .null, .null])), (q0, .inl (Y 0, 12, .inl (fun _ => 0)))]) (rest := [.ref q1, .ref h]) F (c_X2_init l D Y q1 H.size) ⟨va_cnB 0 hts gX4_init_X2_init_n24 rfl rfl rfl hC.1.1 (hts (.initialized RX2) (List.mem_of_getElem? (i := 10) rfl)) (by decide +kernel) ⟨(Nat.le_of_ble_eq_true rfl), (Nat.le_of_ble_eq_true rfl)⟩, rfl, hts (.instanceMethod yX2_init) (List.mem_of_getElem? (i := 14) rfl)⟩ hK hC hP hD hS hA hl.1 (Nat.le_of_ble_eq_true rfl) ⟨(Nat.le_of_ble_eq_true rfl), (Nat.le_of_ble_eq_true rfl)⟩ dX4_init_28 (fun u H locs hP hD hS => ?_)
  obtain ⟨q2, q3⟩ := u
  have hP : va_P D vwCl [(h, .inr (3, [.int 10, .int 2, .int 0, .int 0, .int 0, .ref q0, .null, .null, .null])), (q0, .inl (Y 0, 12, .inl (fun _ => 0))), (q1, .inr (1, [.int 0, .int 0, .ref q2, .ref q3])), (q2, .inl (Y 0, 12, .inl (fun _ => 0))), (q3, .inl (Y 0, 12, .inl (fun _ => 0)))] H := hP
  have hD : va_D A [(h, .inr (3, [.int 10, .int 2, .int 0, .int 0, .int 0, .ref q0, .null, .null, .null])), (q0, .inl (Y 0, 12, .inl (fun _ => 0))), (q1, .inr (1, [.int 0, .int 0, .ref q2, .ref q3])), (q2, .inl (Y 0, 12, .inl (fun _ => 0))), (q3, .inl (Y 0, 12, .inl (fun _ => 0)))] := hD
  refine va_putF (D := D) (ci := 3) (v := .ref q1) (ty := .object "SoldStops$Marks") (C := RX4) (T := TX4) (N := 9) hx hb hts iX tyX4 tyX4_ok nmX4 hown hK hP hD hS 0 rfl rfl 6 (by decide) (hts (.fieldLink RX4 25 "SoldStops$Page" "marks" "LSoldStops$Marks;") (List.mem_of_getElem? (i := 11) rfl)) (fun _ h9 => h9) rfl hin rfl (by decide +kernel) rfl rfl (Nat.le_of_ble_eq_true rfl) dX4_init_31 (fun H locs hP hD hS => ?_)
  have hP : va_P D vwCl [(h, .inr (3, [.int 10, .int 2, .int 0, .int 0, .int 0, .ref q0, .ref q1, .null, .null])), (q0, .inl (Y 0, 12, .inl (fun _ => 0))), (q1, .inr (1, [.int 0, .int 0, .ref q2, .ref q3])), (q2, .inl (Y 0, 12, .inl (fun _ => 0))), (q3, .inl (Y 0, 12, .inl (fun _ => 0)))] H := hP
  have hD : va_D A [(h, .inr (3, [.int 10, .int 2, .int 0, .int 0, .int 0, .ref q0, .ref q1, .null, .null])), (q0, .inl (Y 0, 12, .inl (fun _ => 0))), (q1, .inr (1, [.int 0, .int 0, .ref q2, .ref q3])), (q2, .inl (Y 0, 12, .inl (fun _ => 0))), (q3, .inl (Y 0, 12, .inl (fun _ => 0)))] := hD
  refine lv_aload_n hx hb dX4_init_34 rfl (lv_at hl 0 rfl) ?_
  refine lv_bipush (v := 6) hx hb dX4_init_35 (by decide) ?_
  refine nwI hx hb (hts (.arrayClass .int) (List.mem_of_getElem? (i := 6) rfl)) hK hP hD hS hA (by decide) (N' := 6) (by decide) (Nat.le_of_ble_eq_true rfl) (Nat.le_of_ble_eq_true rfl) (Nat.le_of_ble_eq_true rfl) dX4_init_37 (fun q4 H hP hD hS => ?_)
  have hP : va_P D vwCl [(h, .inr (3, [.int 10, .int 2, .int 0, .int 0, .int 0, .ref q0, .ref q1, .null, .null])), (q0, .inl (Y 0, 12, .inl (fun _ => 0))), (q1, .inr (1, [.int 0, .int 0, .ref q2, .ref q3])), (q2, .inl (Y 0, 12, .inl (fun _ => 0))), (q3, .inl (Y 0, 12, .inl (fun _ => 0))), (q4, .inl (Y 0, 6, .inl (fun _ => 0)))] H := hP
  have hD : va_D A [(h, .inr (3, [.int 10, .int 2, .int 0, .int 0, .int 0, .ref q0, .ref q1, .null, .null])), (q0, .inl (Y 0, 12, .inl (fun _ => 0))), (q1, .inr (1, [.int 0, .int 0, .ref q2, .ref q3])), (q2, .inl (Y 0, 12, .inl (fun _ => 0))), (q3, .inl (Y 0, 12, .inl (fun _ => 0))), (q4, .inl (Y 0, 6, .inl (fun _ => 0)))] := hD
  refine va_putF (D := D) (ci := 3) (v := .ref q4) (ty := .array .int) (C := RX4) (T := TX4) (N := 9) hx hb hts iX tyX4 tyX4_ok nmX4 hown hK hP hD hS 0 rfl rfl 7 (by decide) (hts (.fieldLink RX4 29 "SoldStops$Page" "heard" "[I") (List.mem_of_getElem? (i := 12) rfl)) (fun _ h9 => h9) rfl hin rfl (by decide +kernel) rfl rfl (Nat.le_of_ble_eq_true rfl) dX4_init_39 (fun H locs hP hD hS => ?_)
  have hP : va_P D vwCl [(h, .inr (3, [.int 10, .int 2, .int 0, .int 0, .int 0, .ref q0, .ref q1, .ref q4, .null])), (q0, .inl (Y 0, 12, .inl (fun _ => 0))), (q1, .inr (1, [.int 0, .int 0, .ref q2, .ref q3])), (q2, .inl (Y 0, 12, .inl (fun _ => 0))), (q3, .inl (Y 0, 12, .inl (fun _ => 0))), (q4, .inl (Y 0, 6, .inl (fun _ => 0)))] H := hP
  have hD : va_D A [(h, .inr (3, [.int 10, .int 2, .int 0, .int 0, .int 0, .ref q0, .ref q1, .ref q4, .null])), (q0, .inl (Y 0, 12, .inl (fun _ => 0))), (q1, .inr (1, [.int 0, .int 0, .ref q2, .ref q3])), (q2, .inl (Y 0, 12, .inl (fun _ => 0))), (q3, .inl (Y 0, 12, .inl (fun _ => 0))), (q4, .inl (Y 0, 6, .inl (fun _ => 0)))] := hD
  refine lv_aload_n hx hb dX4_init_42 rfl (lv_at hl 0 rfl) ?_
  refine lv_bipush (v := 8) hx hb dX4_init_43 (by decide) ?_
  refine nwQ (C := RX2) (t0 := 3) (by decide) hx hb hown (hts (.classLink RX4 22 RX2) (List.mem_of_getElem? (i := 8) rfl)) hC.2.1 rfl hK hP hD hS hA (by decide) (N' := 8) (by decide) (Nat.le_of_ble_eq_true rfl) (Nat.le_of_ble_eq_true rfl) (Nat.le_of_ble_eq_true rfl) dX4_init_45 (fun q5 H hP hD hS => ?_)
  have hP : va_P D vwCl [(h, .inr (3, [.int 10, .int 2, .int 0, .int 0, .int 0, .ref q0, .ref q1, .ref q4, .null])), (q0, .inl (Y 0, 12, .inl (fun _ => 0))), (q1, .inr (1, [.int 0, .int 0, .ref q2, .ref q3])), (q2, .inl (Y 0, 12, .inl (fun _ => 0))), (q3, .inl (Y 0, 12, .inl (fun _ => 0))), (q4, .inl (Y 0, 6, .inl (fun _ => 0))), (q5, qE (Y 3) 8 (fun _ => none))] H := hP
  have hD : va_D A [(h, .inr (3, [.int 10, .int 2, .int 0, .int 0, .int 0, .ref q0, .ref q1, .ref q4, .null])), (q0, .inl (Y 0, 12, .inl (fun _ => 0))), (q1, .inr (1, [.int 0, .int 0, .ref q2, .ref q3])), (q2, .inl (Y 0, 12, .inl (fun _ => 0))), (q3, .inl (Y 0, 12, .inl (fun _ => 0))), (q4, .inl (Y 0, 6, .inl (fun _ => 0))), (q5, qE (Y 3) 8 (fun _ => none))] := hD
  refine va_putF (D := D) (ci := 3) (v := .ref q5) (ty := .array (.object "SoldStops$Marks")) (C := RX4) (T := TX4) (N := 9) hx hb hts iX tyX4 tyX4_ok nmX4 hown hK hP hD hS 0 rfl rfl 8 (by decide) (hts (.fieldLink RX4 32 "SoldStops$Page" "past" "[LSoldStops$Marks;") (List.mem_of_getElem? (i := 13) rfl)) (fun _ h9 => h9) rfl hin rfl (by decide +kernel) rfl rfl (Nat.le_of_ble_eq_true rfl) dX4_init_48 (fun H locs hP hD hS => ?_)
  have hP : va_P D vwCl [(h, .inr (3, [.int 10, .int 2, .int 0, .int 0, .int 0, .ref q0, .ref q1, .ref q4, .ref q5])), (q0, .inl (Y 0, 12, .inl (fun _ => 0))), (q1, .inr (1, [.int 0, .int 0, .ref q2, .ref q3])), (q2, .inl (Y 0, 12, .inl (fun _ => 0))), (q3, .inl (Y 0, 12, .inl (fun _ => 0))), (q4, .inl (Y 0, 6, .inl (fun _ => 0))), (q5, qE (Y 3) 8 (fun _ => none))] H := hP
  have hD : va_D A [(h, .inr (3, [.int 10, .int 2, .int 0, .int 0, .int 0, .ref q0, .ref q1, .ref q4, .ref q5])), (q0, .inl (Y 0, 12, .inl (fun _ => 0))), (q1, .inr (1, [.int 0, .int 0, .ref q2, .ref q3])), (q2, .inl (Y 0, 12, .inl (fun _ => 0))), (q3, .inl (Y 0, 12, .inl (fun _ => 0))), (q4, .inl (Y 0, 6, .inl (fun _ => 0))), (q5, qE (Y 3) 8 (fun _ => none))] := hD
  obtain ⟨u, hu⟩ : ∃ u : Nat → Nat, u = fun i => [q0, q1, q2, q3, q4, q5].getD i 0 := ⟨_, rfl⟩
  have hP : va_P D vwCl ((h, .inr (3, pgO (u, fun _ => (0, 0, 0)))) :: (u 5, qE (Y 3) 8 (rfL 0 (fun _ => (0, 0, 0)))) :: (pgX Y u ++ mkL Y 0 (fun _ => (0, 0, 0)))) H := by
    rw [hu]
    exact hP.sub [0, 6, 1, 2, 3, 4, 5] rfl
  have hD : va_D A ((h, .inr (3, pgO (u, fun _ => (0, 0, 0)))) :: (u 5, qE (Y 3) 8 (rfL 0 (fun _ => (0, 0, 0)))) :: (pgX Y u ++ mkL Y 0 (fun _ => (0, 0, 0)))) := by
    rw [hu]
    exact hD.sub [0, 6, 1, 2, 3, 4, 5] (by decide) rfl
  clear hu
  refine lv_iconst (v := (0 : Int32)) hx hb dX4_init_51 (by decide) ?_
  refine lv_istore_n (lv' := [(1, .int (0 : Int32)), (0, .ref h)]) hx hb dX4_init_52 rfl hl (by decide) rfl (fun ls hl => ?_)
  have loop : ∀ (n i : Nat), i + n = 8 → ∀ (a : Nat → Nat × Nat × Nat) (H : Heap) (locs : List Loc) (ls : Array Slot), lv_has ls 2 [(1, .int (nI i)), (0, .ref h)] → va_P D vwCl ((h, .inr (3, pgO (u, fun _ => (0, 0, 0)))) :: (u 5, qE (Y 3) 8 (rfL i a)) :: (pgX Y u ++ mkL Y i a)) H → va_D A ((h, .inr (3, pgO (u, fun _ => (0, 0, 0)))) :: (u 5, qE (Y 3) 8 (rfL i a)) :: (pgX Y u ++ mkL Y i a)) → va_S A s.heap H locs → W p l e { frames := 2, cells := 30, slots := 278, locals := 40 } s m #[.ref h] below meth c H locs (6 + 3 * i) (54 + 28 * i) (MQ below (va_Qv (fun _ : pgS => True) (ctQ D Y 3 [.int 0, .int 0, .int 0, .int 0, .int 0, .null, .null, .null, .null] h s.heap.size (fun u => pgW Y h u)) A) #[.ref h] s 30 278 A) (F0 m 53 ls []) := by
    intro n
    induction n with
    | zero =>
      intro i hi a H locs ls hl hP hD hS
      have h8 : i = 8 := by omega
      subst h8
      refine lv_iload_n hx hb dX4_init_53 rfl (lv_at hl 0 rfl) ?_
      refine lv_bipush (v := (8 : Int32)) hx hb dX4_init_54 (by decide) ?_
      refine lv_icmp_ge (tgt := 78) hx hb dX4_init_56 (by decide) (fun _ => ?_) (fun q => absurd (show (8 : Int32) ≤ nI 8 by decide) q)
      have hP := qE_P (a := [(h, .inr (3, pgO (u, fun _ => (0, 0, 0))))]) (g := fun j => some (a j).1) hP (fun i hi => if_pos hi)
      have hD := qE_D (a := [(h, .inr (3, pgO (u, fun _ => (0, 0, 0))))]) (g := fun j => some (a j).1) hD
      refine W.widen (k := 30) (n := 278) (by omega) (by omega) ?_
      exact W.vret hx hb hr (fun t ht hW => ⟨⟨(u, a), rfl, trivial, by rw [ht]; exact hP, va_K.moved hW.alike hK, by rw [hAe]; exact hD⟩, hS.F ht⟩) hS.2.2 dX4_init_78 hlocks
    | succ n ih =>
      intro i hi a H locs ls hl hP hD hS
      have h8 : i < 8 := by omega
      refine lv_iload_n hx hb dX4_init_53 rfl (lv_at hl 0 rfl) ?_
      refine lv_bipush (v := (8 : Int32)) hx hb dX4_init_54 (by decide) ?_
      refine lv_icmp_ge (tgt := 78) hx hb dX4_init_56 (by decide) (fun q => absurd q (nI_ge (a := i) (b := 8) h8 (by omega))) (fun _ => ?_)
      refine lv_aload_n hx hb dX4_init_59 rfl (lv_at hl 1 rfl) ?_
      refine va_get (C := RX4) (T := TX4) (N := 9) hx hb hts iX hown hK hP 0 rfl rfl 8 (by decide) (hts (.fieldLink RX4 32 "SoldStops$Page" "past" "[LSoldStops$Marks;") (List.mem_of_getElem? (i := 13) rfl)) (fun _ h9 => h9) rfl dX4_init_60 ?_
      refine lv_iload_n hx hb dX4_init_63 rfl (lv_at hl 0 rfl) ?_
      refine va_new (ci := 1) (fs := [.int 0, .int 0, .null, .null]) (C := RX2) (T := TX2) (N := 4) hx hb hts iX2 tyX2 tyX2_ok hown (hts (.classLink RX4 22 RX2) (List.mem_of_getElem? (i := 8) rfl)) (hts (.instantiable RX2 4) (List.mem_of_getElem? (i := 9) rfl)) (hts (.initialized RX2) (List.mem_of_getElem? (i := 10) rfl)) hK hP hD hS hA rfl df_X2 (show 6 + 3 * i + 1 ≤ 30 by omega) (show 54 + 28 * i + 4 ≤ 278 by omega) dX4_init_64 (fun q H hP hD hS => ?_)
      refine lv_dup hx hb dX4_init_67 rfl ?_
      refine cN (W0 := (h, .inr (3, pgO (u, fun _ => (0, 0, 0)))) :: (u 5, qE (Y 3) 8 (rfL i a)) :: (pgX Y u ++ mkL Y i a)) (rest := [.ref q, .int (nI i), .ref (u 5)]) F (c_X2_init l D Y q H.size) ⟨va_cnB 0 hts gX4_init_X2_init_n24 rfl rfl rfl hC.1.1 (hts (.initialized RX2) (List.mem_of_getElem? (i := 10) rfl)) (by decide +kernel) ⟨(Nat.le_of_ble_eq_true rfl), (Nat.le_of_ble_eq_true rfl)⟩, rfl, hts (.instanceMethod yX2_init) (List.mem_of_getElem? (i := 14) rfl)⟩ hK hC hP hD hS hA hl.1 (Nat.le_of_ble_eq_true rfl) ⟨show 6 + 3 * i + 1 + 2 ≤ 30 by omega, show 54 + 28 * i + 4 + 24 ≤ 278 by omega⟩ dX4_init_68 (fun v H locs hP hD hS => ?_)
      obtain ⟨k, r⟩ := v
      have e0 : ((h, .inr (3, pgO (u, fun _ => (0, 0, 0)))) :: (u 5, qE (Y 3) 8 (rfL i a)) :: (pgX Y u ++ mkL Y i a)) ++ mW Y q k r = ((h, .inr (3, pgO (u, fun _ => (0, 0, 0)))) :: (u 5, qE (Y 3) 8 (rfL i a)) :: (pgX Y u ++ mkL Y (i + 1) (va_up a i (q, k, r))) : va_W) := by
        rw [← mkL_s, ← List.append_assoc]
        rfl
      have hv : ((h, .inr (3, pgO (u, fun _ => (0, 0, 0)))) :: (u 5, qE (Y 3) 8 (rfL i a)) :: (pgX Y u ++ mkL Y (i + 1) (va_up a i (q, k, r))) : va_W)[(pgX Y u ++ mkL Y i a).length + 2]? = some (q, .inr (1, [.int 0, .int 0, .ref k, .ref r])) := by
        rw [← mkL_s, ← List.append_assoc]
        exact va_lastc
      replace hP : va_P D vwCl _ H := hP
      rw [e0] at hP hD
      refine va_astq (r := (RX2, TX2, 4)) hx hb hK hP hD hS 1 3 _ 1 rfl rfl hv rfl (vp_in_nI h8 (by omega)) dX4_init_71 (fun H locs hP hD hS => ?_)
      rw [nI_clamp (by omega)] at hP hD
      have hP : va_P D vwCl ((h, .inr (3, pgO (u, fun _ => (0, 0, 0)))) :: (u 5, qE (Y 3) 8 (va_up (rfL i a) i (some q))) :: (pgX Y u ++ mkL Y (i + 1) (va_up a i (q, k, r)))) H := hP
      have hD : va_D A ((h, .inr (3, pgO (u, fun _ => (0, 0, 0)))) :: (u 5, qE (Y 3) 8 (va_up (rfL i a) i (some q))) :: (pgX Y u ++ mkL Y (i + 1) (va_up a i (q, k, r)))) := hD
      rw [rfL_s i a q k r] at hP hD
      refine lv_iinc (v := nI (i + 1)) (lv' := [(1, .int (nI (i + 1))), (0, .ref h)]) hx hb dX4_init_72 hl (k := 0) rfl (nI_1 i) (by decide) rfl (fun ls hl => ?_)
      refine lv_goto (tgt := 53) hx hb dX4_init_75 (by decide) ?_
      refine W.widen (k := 6 + 3 * (i + 1)) (n := 54 + 28 * (i + 1)) (by omega) (by omega) ?_
      exact ih (i + 1) (by omega) _ _ _ _ hl hP hD hS
  exact loop 8 0 rfl _ _ _ _ hl hP hD hS
abbrev plO (a : Nat → Nat) : List Value := [.ref (a 0), .ref (a 1), .ref (a 2), .ref (a 3), .ref (a 4)]
def plV (Y : Nat → ClassId) (h : Nat) (a : Nat → Nat) (r1 r2 r3 : Nat → Nat) : va_W := ((h, .inr (4, plO a)) :: (a 0, qE (Y 5) 13 (fun i => some (r1 i))) :: rwL Y 13 r1) ++ (((a 1, qE (Y 5) 13 (fun i => some (r2 i))) :: rwL Y 13 r2) ++ ((a 2, qE (Y 5) 12 (fun i => some (r3 i))) :: (rwL Y 12 r3 ++ [(a 3, iE Y 31), (a 4, iE Y 31)])))
abbrev plS : Type := (Nat → Nat) × (Nat → Nat) × (Nat → Nat) × (Nat → Nat)
theorem plW_fix {D : va_G} {cl : List vw_C} {A : Nat → Prop} {Y : Nat → ClassId} {H : Heap} {h : Nat} {a : Nat → Nat} {r1 r2 r3 : Nat → Nat} : (va_P D cl (plW Y h a r1 r2 r3) H → va_P D cl (plV Y h a r1 r2 r3) H) ∧ (va_D A (plW Y h a r1 r2 r3) → va_D A (plV Y h a r1 r2 r3)) := by
  have e0 : plW Y h a r1 r2 r3 = [(h, .inr (4, plO a))] ++ (a 0, qE (Y 5) 13 (ouL 13 r1)) :: (rwL Y 13 r1 ++ ((a 1, qE (Y 5) 13 (ouL 13 r2)) :: (rwL Y 13 r2 ++ ((a 2, qE (Y 5) 12 (ouL 12 r3)) :: (rwL Y 12 r3 ++ [(a 3, iE Y 31), (a 4, iE Y 31)]))))) := rfl
  have e1 : ∀ f : Nat → Option Nat, [(h, .inr (4, plO a))] ++ (a 0, qE (Y 5) 13 f) :: (rwL Y 13 r1 ++ ((a 1, qE (Y 5) 13 (ouL 13 r2)) :: (rwL Y 13 r2 ++ ((a 2, qE (Y 5) 12 (ouL 12 r3)) :: (rwL Y 12 r3 ++ [(a 3, iE Y 31), (a 4, iE Y 31)]))))) = ((h, .inr (4, plO a)) :: (a 0, qE (Y 5) 13 f) :: rwL Y 13 r1) ++ ((a 1, qE (Y 5) 13 (ouL 13 r2)) :: (rwL Y 13 r2 ++ ((a 2, qE (Y 5) 12 (ouL 12 r3)) :: (rwL Y 12 r3 ++ [(a 3, iE Y 31), (a 4, iE Y 31)])))) := fun _ => rfl
  have e2 : ∀ f g : Nat → Option Nat, ((h, .inr (4, plO a)) :: (a 0, qE (Y 5) 13 f) :: rwL Y 13 r1) ++ ((a 1, qE (Y 5) 13 g) :: (rwL Y 13 r2 ++ ((a 2, qE (Y 5) 12 (ouL 12 r3)) :: (rwL Y 12 r3 ++ [(a 3, iE Y 31), (a 4, iE Y 31)])))) = (((h, .inr (4, plO a)) :: (a 0, qE (Y 5) 13 f) :: rwL Y 13 r1) ++ ((a 1, qE (Y 5) 13 g) :: rwL Y 13 r2)) ++ ((a 2, qE (Y 5) 12 (ouL 12 r3)) :: (rwL Y 12 r3 ++ [(a 3, iE Y 31), (a 4, iE Y 31)])) := fun f g => by rw [List.append_assoc]; rfl
  have e3 : ∀ f g k : Nat → Option Nat, (((h, .inr (4, plO a)) :: (a 0, qE (Y 5) 13 f) :: rwL Y 13 r1) ++ ((a 1, qE (Y 5) 13 g) :: rwL Y 13 r2)) ++ ((a 2, qE (Y 5) 12 k) :: (rwL Y 12 r3 ++ [(a 3, iE Y 31), (a 4, iE Y 31)])) = ((h, .inr (4, plO a)) :: (a 0, qE (Y 5) 13 f) :: rwL Y 13 r1) ++ (((a 1, qE (Y 5) 13 g) :: rwL Y 13 r2) ++ ((a 2, qE (Y 5) 12 k) :: (rwL Y 12 r3 ++ [(a 3, iE Y 31), (a 4, iE Y 31)]))) := fun f g k => by rw [List.append_assoc]
  constructor
  · intro h1
    rw [e0] at h1
    have h2 := qE_P (g := fun i => some (r1 i)) h1 (fun i hi => if_pos hi)
    rw [e1] at h2
    have h3 := qE_P (g := fun i => some (r2 i)) h2 (fun i hi => if_pos hi)
    rw [e2] at h3
    have h4 := qE_P (g := fun i => some (r3 i)) h3 (fun i hi => if_pos hi)
    rw [e3] at h4
    exact h4
  · intro h1
    exact va_Da h1 rfl
set_option maxHeartbeats 4000000 in
set_option maxRecDepth 100000 in
theorem c_X5_init (l : Launch) (D : va_G) (Y : Nat → ClassId) (h sz : Nat) : Met l yX5_init wsX5_init { frames := 1, cells := 43, slots := 1278, locals := 12 } (va_Pc [.ref h] (ctP D Y 4 [.null, .null, .null, .null, .null] h sz)) (va_Qv (fun _ : plS => True) (ctQ D Y 4 [.null, .null, .null, .null, .null] h sz (fun u => plV Y h u.1 u.2.1 u.2.2.1 u.2.2.2)) (va_A [(h, .inr (4, [.null, .null, .null, .null, .null]))] sz)) 43 1278 (va_A [(h, .inr (4, [.null, .null, .null, .null, .null]))] sz) := by
  refine Met.ofW (cc := cX5_init) (maxL := 1) (ret := none) (by decide +kernel) rfl ?_
  intro p e s m args below meth c s₁ B hml hv
  obtain ⟨rfl, hsz, hP, hK, hD0, hC⟩ := hv
  have hx := B.exec
  have hb := B.bytes
  have hr := B.returns
  have hts := atoms_spec (ws := wsX5_init) B.pre
  have hown : s.vm.findClass RX5 = some m.cls := findClass_of_methodNamed B.named
  have hlocks := B.notSynchronized
  have hin : meth.name = "<init>" := (name_of_methodNamed B.named B.method).1
  subst hsz
  have hD := hD0.self (sz := s.heap.size)
  generalize hAe : va_A [(h, .inr (4, [.null, .null, .null, .null, .null]))] s.heap.size = A at hD ⊢
  have hA : ∀ q : Nat, s.heap.size ≤ q → A q := fun q z => by rw [← hAe]; exact Or.inr z
  have hS : va_S A s.heap s.heap [] := va_S.rf
  have hl := lv_entry ([.ref h]) (n := 1) (Nat.le_of_ble_eq_true rfl)
  rw [lg_entry_eq]
  generalize (lg_sl ([.ref h]) ++ List.replicate (1 - (lg_sl ([.ref h])).length) Slot.unset).toArray = ls at hl ⊢
  have hl : lv_has ls 1 [(0, .ref h)] := hl
  have iX : ∀ q ∈ wsX50, q ∈ wsX5_init := fun q h => List.mem_cons_of_mem _ (List.mem_append_right _ (h))
  refine lv_aload_n hx hb dX5_init_0 rfl (lv_at hl 0 rfl) ?_
  refine W.objInit hx hb hown (hts (.methodLink RX5 3 objectInit) (List.mem_of_getElem? (i := 1) rfl)) (hts (.instanceMethod objectInit) (List.mem_of_getElem? (i := 2) rfl)) (hts _ (List.mem_of_getElem? (i := 3) rfl)) rfl (by rw [hml]; exact hl.1) rfl dX5_init_1 (Nat.le_of_ble_eq_true rfl) (Nat.le_of_ble_eq_true rfl) ?_
  refine W.eq (g2 := F0 m 4 ls []) rfl ?_
  have hP : va_P D vwCl ((h, .inr (4, [.null, .null, .null, .null, .null])) :: []) _ := hP
  have hD : va_D A ((h, .inr (4, [.null, .null, .null, .null, .null])) :: []) := hD
  refine lv_aload_n hx hb dX5_init_4 rfl (lv_at hl 0 rfl) ?_
  refine lv_bipush (v := 13) hx hb dX5_init_5 (by decide) ?_
  refine lv_bipush (v := 31) hx hb dX5_init_7 (by decide) ?_
  refine nwM hx hb hown (hts (.classLink RX5 9 "[[I") (List.mem_of_getElem? (i := 4) rfl)) hC.2.2.2 (hts (.arrayClass .int) (List.mem_of_getElem? (i := 5) rfl)) hK hP hD hS hA (by decide) (N' := 13) (by decide) (Nat.le_of_ble_eq_true rfl) (Nat.le_of_ble_eq_true rfl) (Nat.le_of_ble_eq_true rfl) dX5_init_9 (fun a0 r1 H hP hD hS => ?_)
  have hP : va_P D vwCl ((h, .inr (4, [.null, .null, .null, .null, .null])) :: ([] ++ ((a0, qE (Y 5) 13 (ouL 13 r1)) :: rwL Y 13 r1))) H := hP
  have hD : va_D A ((h, .inr (4, [.null, .null, .null, .null, .null])) :: ([] ++ ((a0, qE (Y 5) 13 (ouL 13 r1)) :: rwL Y 13 r1))) := hD
  refine va_putF (D := D) (ci := 4) (v := .ref a0) (ty := .array (.array .int)) (C := RX5) (T := TX5) (N := 5) hx hb hts iX tyX5 tyX5_ok nmX5 hown hK hP hD hS 0 rfl rfl 0 (by decide) (hts (.fieldLink RX5 11 "SoldStops$Plan" "costs" "[[I") (List.mem_of_getElem? (i := 6) rfl)) (fun _ h9 => h9) rfl hin rfl (by decide +kernel) rfl rfl (Nat.le_of_ble_eq_true rfl) dX5_init_13 (fun H locs hP hD hS => ?_)
  have hP : va_P D vwCl ((h, .inr (4, [.ref a0, .null, .null, .null, .null])) :: ([] ++ ((a0, qE (Y 5) 13 (ouL 13 r1)) :: rwL Y 13 r1))) H := hP
  have hD : va_D A ((h, .inr (4, [.ref a0, .null, .null, .null, .null])) :: ([] ++ ((a0, qE (Y 5) 13 (ouL 13 r1)) :: rwL Y 13 r1))) := hD
  refine lv_aload_n hx hb dX5_init_16 rfl (lv_at hl 0 rfl) ?_
  refine lv_bipush (v := 13) hx hb dX5_init_17 (by decide) ?_
  refine lv_bipush (v := 31) hx hb dX5_init_19 (by decide) ?_
  refine nwM hx hb hown (hts (.classLink RX5 9 "[[I") (List.mem_of_getElem? (i := 4) rfl)) hC.2.2.2 (hts (.arrayClass .int) (List.mem_of_getElem? (i := 5) rfl)) hK hP hD hS hA (by decide) (N' := 13) (by decide) (Nat.le_of_ble_eq_true rfl) (Nat.le_of_ble_eq_true rfl) (Nat.le_of_ble_eq_true rfl) dX5_init_21 (fun a1 r2 H hP hD hS => ?_)
  have hP : va_P D vwCl ((h, .inr (4, [.ref a0, .null, .null, .null, .null])) :: (([] ++ ((a0, qE (Y 5) 13 (ouL 13 r1)) :: rwL Y 13 r1)) ++ ((a1, qE (Y 5) 13 (ouL 13 r2)) :: rwL Y 13 r2))) H := hP
  have hD : va_D A ((h, .inr (4, [.ref a0, .null, .null, .null, .null])) :: (([] ++ ((a0, qE (Y 5) 13 (ouL 13 r1)) :: rwL Y 13 r1)) ++ ((a1, qE (Y 5) 13 (ouL 13 r2)) :: rwL Y 13 r2))) := hD
  refine va_putF (D := D) (ci := 4) (v := .ref a1) (ty := .array (.array .int)) (C := RX5) (T := TX5) (N := 5) hx hb hts iX tyX5 tyX5_ok nmX5 hown hK hP hD hS 0 rfl rfl 1 (by decide) (hts (.fieldLink RX5 16 "SoldStops$Plan" "fewest" "[[I") (List.mem_of_getElem? (i := 7) rfl)) (fun _ h9 => h9) rfl hin rfl (by decide +kernel) rfl rfl (Nat.le_of_ble_eq_true rfl) dX5_init_25 (fun H locs hP hD hS => ?_)
  have hP : va_P D vwCl ((h, .inr (4, [.ref a0, .ref a1, .null, .null, .null])) :: (([] ++ ((a0, qE (Y 5) 13 (ouL 13 r1)) :: rwL Y 13 r1)) ++ ((a1, qE (Y 5) 13 (ouL 13 r2)) :: rwL Y 13 r2))) H := hP
  have hD : va_D A ((h, .inr (4, [.ref a0, .ref a1, .null, .null, .null])) :: (([] ++ ((a0, qE (Y 5) 13 (ouL 13 r1)) :: rwL Y 13 r1)) ++ ((a1, qE (Y 5) 13 (ouL 13 r2)) :: rwL Y 13 r2))) := hD
  refine lv_aload_n hx hb dX5_init_28 rfl (lv_at hl 0 rfl) ?_
  refine lv_bipush (v := 12) hx hb dX5_init_29 (by decide) ?_
  refine lv_bipush (v := 31) hx hb dX5_init_31 (by decide) ?_
  refine nwM hx hb hown (hts (.classLink RX5 9 "[[I") (List.mem_of_getElem? (i := 4) rfl)) hC.2.2.2 (hts (.arrayClass .int) (List.mem_of_getElem? (i := 5) rfl)) hK hP hD hS hA (by decide) (N' := 12) (by decide) (Nat.le_of_ble_eq_true rfl) (Nat.le_of_ble_eq_true rfl) (Nat.le_of_ble_eq_true rfl) dX5_init_33 (fun a2 r3 H hP hD hS => ?_)
  have hP : va_P D vwCl ((h, .inr (4, [.ref a0, .ref a1, .null, .null, .null])) :: ((([] ++ ((a0, qE (Y 5) 13 (ouL 13 r1)) :: rwL Y 13 r1)) ++ ((a1, qE (Y 5) 13 (ouL 13 r2)) :: rwL Y 13 r2)) ++ ((a2, qE (Y 5) 12 (ouL 12 r3)) :: rwL Y 12 r3))) H := hP
  have hD : va_D A ((h, .inr (4, [.ref a0, .ref a1, .null, .null, .null])) :: ((([] ++ ((a0, qE (Y 5) 13 (ouL 13 r1)) :: rwL Y 13 r1)) ++ ((a1, qE (Y 5) 13 (ouL 13 r2)) :: rwL Y 13 r2)) ++ ((a2, qE (Y 5) 12 (ouL 12 r3)) :: rwL Y 12 r3))) := hD
  refine va_putF (D := D) (ci := 4) (v := .ref a2) (ty := .array (.array .int)) (C := RX5) (T := TX5) (N := 5) hx hb hts iX tyX5 tyX5_ok nmX5 hown hK hP hD hS 0 rfl rfl 2 (by decide) (hts (.fieldLink RX5 19 "SoldStops$Plan" "choices" "[[I") (List.mem_of_getElem? (i := 8) rfl)) (fun _ h9 => h9) rfl hin rfl (by decide +kernel) rfl rfl (Nat.le_of_ble_eq_true rfl) dX5_init_37 (fun H locs hP hD hS => ?_)
  have hP : va_P D vwCl ((h, .inr (4, [.ref a0, .ref a1, .ref a2, .null, .null])) :: ((([] ++ ((a0, qE (Y 5) 13 (ouL 13 r1)) :: rwL Y 13 r1)) ++ ((a1, qE (Y 5) 13 (ouL 13 r2)) :: rwL Y 13 r2)) ++ ((a2, qE (Y 5) 12 (ouL 12 r3)) :: rwL Y 12 r3))) H := hP
  have hD : va_D A ((h, .inr (4, [.ref a0, .ref a1, .ref a2, .null, .null])) :: ((([] ++ ((a0, qE (Y 5) 13 (ouL 13 r1)) :: rwL Y 13 r1)) ++ ((a1, qE (Y 5) 13 (ouL 13 r2)) :: rwL Y 13 r2)) ++ ((a2, qE (Y 5) 12 (ouL 12 r3)) :: rwL Y 12 r3))) := hD
  refine lv_aload_n hx hb dX5_init_40 rfl (lv_at hl 0 rfl) ?_
  refine lv_bipush (v := 31) hx hb dX5_init_41 (by decide) ?_
  refine nwI hx hb (hts (.arrayClass .int) (List.mem_of_getElem? (i := 5) rfl)) hK hP hD hS hA (by decide) (N' := 31) (by decide) (Nat.le_of_ble_eq_true rfl) (Nat.le_of_ble_eq_true rfl) (Nat.le_of_ble_eq_true rfl) dX5_init_43 (fun a3 H hP hD hS => ?_)
  have hP : va_P D vwCl ((h, .inr (4, [.ref a0, .ref a1, .ref a2, .null, .null])) :: (((([] ++ ((a0, qE (Y 5) 13 (ouL 13 r1)) :: rwL Y 13 r1)) ++ ((a1, qE (Y 5) 13 (ouL 13 r2)) :: rwL Y 13 r2)) ++ ((a2, qE (Y 5) 12 (ouL 12 r3)) :: rwL Y 12 r3)) ++ [(a3, iE Y 31)])) H := hP
  have hD : va_D A ((h, .inr (4, [.ref a0, .ref a1, .ref a2, .null, .null])) :: (((([] ++ ((a0, qE (Y 5) 13 (ouL 13 r1)) :: rwL Y 13 r1)) ++ ((a1, qE (Y 5) 13 (ouL 13 r2)) :: rwL Y 13 r2)) ++ ((a2, qE (Y 5) 12 (ouL 12 r3)) :: rwL Y 12 r3)) ++ [(a3, iE Y 31)])) := hD
  refine va_putF (D := D) (ci := 4) (v := .ref a3) (ty := .array .int) (C := RX5) (T := TX5) (N := 5) hx hb hts iX tyX5 tyX5_ok nmX5 hown hK hP hD hS 0 rfl rfl 3 (by decide) (hts (.fieldLink RX5 22 "SoldStops$Plan" "now" "[I") (List.mem_of_getElem? (i := 9) rfl)) (fun _ h9 => h9) rfl hin rfl (by decide +kernel) rfl rfl (Nat.le_of_ble_eq_true rfl) dX5_init_45 (fun H locs hP hD hS => ?_)
  have hP : va_P D vwCl ((h, .inr (4, [.ref a0, .ref a1, .ref a2, .ref a3, .null])) :: (((([] ++ ((a0, qE (Y 5) 13 (ouL 13 r1)) :: rwL Y 13 r1)) ++ ((a1, qE (Y 5) 13 (ouL 13 r2)) :: rwL Y 13 r2)) ++ ((a2, qE (Y 5) 12 (ouL 12 r3)) :: rwL Y 12 r3)) ++ [(a3, iE Y 31)])) H := hP
  have hD : va_D A ((h, .inr (4, [.ref a0, .ref a1, .ref a2, .ref a3, .null])) :: (((([] ++ ((a0, qE (Y 5) 13 (ouL 13 r1)) :: rwL Y 13 r1)) ++ ((a1, qE (Y 5) 13 (ouL 13 r2)) :: rwL Y 13 r2)) ++ ((a2, qE (Y 5) 12 (ouL 12 r3)) :: rwL Y 12 r3)) ++ [(a3, iE Y 31)])) := hD
  refine lv_aload_n hx hb dX5_init_48 rfl (lv_at hl 0 rfl) ?_
  refine lv_bipush (v := 31) hx hb dX5_init_49 (by decide) ?_
  refine nwI hx hb (hts (.arrayClass .int) (List.mem_of_getElem? (i := 5) rfl)) hK hP hD hS hA (by decide) (N' := 31) (by decide) (Nat.le_of_ble_eq_true rfl) (Nat.le_of_ble_eq_true rfl) (Nat.le_of_ble_eq_true rfl) dX5_init_51 (fun a4 H hP hD hS => ?_)
  have hP : va_P D vwCl ((h, .inr (4, [.ref a0, .ref a1, .ref a2, .ref a3, .null])) :: ((((([] ++ ((a0, qE (Y 5) 13 (ouL 13 r1)) :: rwL Y 13 r1)) ++ ((a1, qE (Y 5) 13 (ouL 13 r2)) :: rwL Y 13 r2)) ++ ((a2, qE (Y 5) 12 (ouL 12 r3)) :: rwL Y 12 r3)) ++ [(a3, iE Y 31)]) ++ [(a4, iE Y 31)])) H := hP
  have hD : va_D A ((h, .inr (4, [.ref a0, .ref a1, .ref a2, .ref a3, .null])) :: ((((([] ++ ((a0, qE (Y 5) 13 (ouL 13 r1)) :: rwL Y 13 r1)) ++ ((a1, qE (Y 5) 13 (ouL 13 r2)) :: rwL Y 13 r2)) ++ ((a2, qE (Y 5) 12 (ouL 12 r3)) :: rwL Y 12 r3)) ++ [(a3, iE Y 31)]) ++ [(a4, iE Y 31)])) := hD
  refine va_putF (D := D) (ci := 4) (v := .ref a4) (ty := .array .int) (C := RX5) (T := TX5) (N := 5) hx hb hts iX tyX5 tyX5_ok nmX5 hown hK hP hD hS 0 rfl rfl 4 (by decide) (hts (.fieldLink RX5 26 "SoldStops$Plan" "then" "[I") (List.mem_of_getElem? (i := 10) rfl)) (fun _ h9 => h9) rfl hin rfl (by decide +kernel) rfl rfl (Nat.le_of_ble_eq_true rfl) dX5_init_53 (fun H locs hP hD hS => ?_)
  have hP : va_P D vwCl ((h, .inr (4, [.ref a0, .ref a1, .ref a2, .ref a3, .ref a4])) :: ((((([] ++ ((a0, qE (Y 5) 13 (ouL 13 r1)) :: rwL Y 13 r1)) ++ ((a1, qE (Y 5) 13 (ouL 13 r2)) :: rwL Y 13 r2)) ++ ((a2, qE (Y 5) 12 (ouL 12 r3)) :: rwL Y 12 r3)) ++ [(a3, iE Y 31)]) ++ [(a4, iE Y 31)])) H := hP
  have hD : va_D A ((h, .inr (4, [.ref a0, .ref a1, .ref a2, .ref a3, .ref a4])) :: ((((([] ++ ((a0, qE (Y 5) 13 (ouL 13 r1)) :: rwL Y 13 r1)) ++ ((a1, qE (Y 5) 13 (ouL 13 r2)) :: rwL Y 13 r2)) ++ ((a2, qE (Y 5) 12 (ouL 12 r3)) :: rwL Y 12 r3)) ++ [(a3, iE Y 31)]) ++ [(a4, iE Y 31)])) := hD
  obtain ⟨a, ha⟩ : ∃ a : Nat → Nat, a = fun i => [a0, a1, a2, a3, a4].getD i 0 := ⟨_, rfl⟩
  have e0 : (((h, .inr (4, [.ref a0, .ref a1, .ref a2, .ref a3, .ref a4])) :: ((((([] ++ ((a0, qE (Y 5) 13 (ouL 13 r1)) :: rwL Y 13 r1)) ++ ((a1, qE (Y 5) 13 (ouL 13 r2)) :: rwL Y 13 r2)) ++ ((a2, qE (Y 5) 12 (ouL 12 r3)) :: rwL Y 12 r3)) ++ [(a3, iE Y 31)]) ++ [(a4, iE Y 31)])) : va_W) = plW Y h a r1 r2 r3 := by
    rw [ha]
    simp only [List.append_assoc, List.nil_append, List.cons_append]
    rfl
  rw [e0] at hP hD
  have hP := (plW_fix (A := A)).1 hP
  have hD := (plW_fix (D := D) (cl := vwCl) (H := H)).2 hD
  exact W.vret hx hb hr (fun t ht hW => ⟨⟨(a, r1, r2, r3), rfl, trivial, by rw [ht]; exact hP, va_K.moved hW.alike hK, by rw [hAe]; exact hD⟩, hS.F ht⟩) hS.2.2 dX5_init_56 hlocks
