/-! CONSTRUCTORS: SoldStops (laid by wip/gen/ctor3.py) -/
theorem df_X4 : ∀ j, j < 9 → defaultValue (tyX4 j) = vp_V [.int 0, .int 0, .int 0, .int 0, .int 0, .null, .null, .null, .null] j := fun j hj => match j, hj with
  | 0, _ => rfl
  | 1, _ => rfl
  | 2, _ => rfl
  | 3, _ => rfl
  | 4, _ => rfl
  | 5, _ => rfl
  | 6, _ => rfl
  | 7, _ => rfl
  | 8, _ => rfl
  | (j + 9), h => absurd h (by omega)
theorem df_X5 : ∀ j, j < 5 → defaultValue (tyX5 j) = vp_V [.null, .null, .null, .null, .null] j := fun j hj => match j, hj with
  | 0, _ => rfl
  | 1, _ => rfl
  | 2, _ => rfl
  | 3, _ => rfl
  | 4, _ => rfl
  | (j + 5), h => absurd h (by omega)
theorem df_X6 : ∀ j, j < 10 → defaultValue (tyX6 j) = vp_V [.int 0, .int 0, .null, .null, .null, .null, .int 0, .int 0, .int 0, .int 0] j := fun j hj => match j, hj with
  | 0, _ => rfl
  | 1, _ => rfl
  | 2, _ => rfl
  | 3, _ => rfl
  | 4, _ => rfl
  | 5, _ => rfl
  | 6, _ => rfl
  | 7, _ => rfl
  | 8, _ => rfl
  | 9, _ => rfl
  | (j + 10), h => absurd h (by omega)
theorem df_X3 : ∀ j, j < 4 → defaultValue (tyX3 j) = vp_V [.int 0, .null, .null, .null] j := fun j hj => match j, hj with
  | 0, _ => rfl
  | 1, _ => rfl
  | 2, _ => rfl
  | 3, _ => rfl
  | (j + 4), h => absurd h (by omega)
theorem df_X0 : ∀ j, j < 4 → defaultValue (tyX0 j) = vp_V [.long 0, .long 0, .null, .null] j := fun j hj => match j, hj with
  | 0, _ => rfl
  | 1, _ => rfl
  | 2, _ => rfl
  | 3, _ => rfl
  | (j + 4), h => absurd h (by omega)
abbrev ssS : Type := (Nat → Nat) × (Nat → pgS) × (Nat → Nat) × plS
abbrev ssO (P z : Nat → Nat) : List Value := [.ref (P 0), .ref (P 1), .ref (z 0), .ref (z 1), .ref (z 2), .ref (z 7), .ref (z 8), .ref (z 12), .ref (z 15), .int 0, .int 0, .int 0]
def ssX (Y : Nat → ClassId) (P : Nat → Nat) (U : Nat → pgS) (z : Nat → Nat) (v : plS) : va_W := pgW Y (P 0) (U 0) ++ (pgW Y (P 1) (U 1) ++ (pgW Y (P 2) (U 2) ++ (pgW Y (P 3) (U 3) ++ ((z 1, .inl (Y 2, 2, .inl (fun _ => 0))) :: (txW Y (z 2) (z 3) (z 4) (z 5) (z 6) ++ (plV Y (z 7) v.1 v.2.1 v.2.2.1 v.2.2.2 ++ (orW Y (z 8) (z 9) (z 10) (z 11) ++ (chW Y (z 12) (z 13) (z 14) ++ [(z 15, iE Y 13)]))))))))
def ssW (Y : Nat → ClassId) (h : Nat) (u : ssS) : va_W := (h, .inr (6, ssO u.1 u.2.2.1)) :: (u.2.2.1 0, qE (Y 4) 2 (fun i => some (u.1 (2 + i)))) :: ssX Y u.1 u.2.1 u.2.2.1 u.2.2.2
set_option maxHeartbeats 4000000 in
set_option maxRecDepth 100000 in
theorem c_X7_init (l : Launch) (D : va_G) (Y : Nat → ClassId) (h sz : Nat) : Met l yX7_init wsX7_init { frames := 4, cells := 183, slots := 3149, locals := 100 } (va_Pc [.ref h] (ctP D Y 6 [.null, .null, .null, .null, .null, .null, .null, .null, .null, .int 0, .int 0, .int 0] h sz)) (va_Qv (fun _ : ssS => True) (ctQ D Y 6 [.null, .null, .null, .null, .null, .null, .null, .null, .null, .int 0, .int 0, .int 0] h sz (fun u => ssW Y h u)) (va_A [(h, .inr (6, [.null, .null, .null, .null, .null, .null, .null, .null, .null, .int 0, .int 0, .int 0]))] sz)) 183 3149 (va_A [(h, .inr (6, [.null, .null, .null, .null, .null, .null, .null, .null, .null, .int 0, .int 0, .int 0]))] sz) := by
  refine Met.ofW (cc := cX7_init) (maxL := 1) (ret := none) (by decide +kernel) rfl ?_
  intro p e s m args below meth c s₁ B hml hv
  obtain ⟨rfl, hsz, hP, hK, hD0, hC⟩ := hv
  have hx := B.exec
  have hb := B.bytes
  have hr := B.returns
  have hts := atoms_spec (ws := wsX7_init) B.pre
  have hown : s.vm.findClass RX7 = some m.cls := findClass_of_methodNamed B.named
  have hlocks := B.notSynchronized
  have hin : meth.name = "<init>" := (name_of_methodNamed B.named B.method).1
  subst hsz
  have hD := hD0.self (sz := s.heap.size)
  generalize hAe : va_A [(h, .inr (6, [.null, .null, .null, .null, .null, .null, .null, .null, .null, .int 0, .int 0, .int 0]))] s.heap.size = A at hD ⊢
  have hA : ∀ q : Nat, s.heap.size ≤ q → A q := fun q z => by rw [← hAe]; exact Or.inr z
  have hS : va_S A s.heap s.heap [] := va_S.rf
  have hl := lv_entry ([.ref h]) (n := 1) (Nat.le_of_ble_eq_true rfl)
  rw [lg_entry_eq]
  generalize (lg_sl ([.ref h]) ++ List.replicate (1 - (lg_sl ([.ref h])).length) Slot.unset).toArray = ls at hl ⊢
  have hl : lv_has ls 1 [(0, .ref h)] := hl
  have iX : ∀ q ∈ wsX70, q ∈ wsX7_init := fun q h => List.mem_cons_of_mem _ (List.mem_append_left _ (List.mem_append_left _ (List.mem_append_left _ (List.mem_append_left _ (List.mem_append_left _ (List.mem_append_right _ (h)))))))
  have iX4 : ∀ q ∈ wsX40, q ∈ wsX7_init := fun q h => List.mem_cons_of_mem _ (List.mem_append_left _ (List.mem_append_left _ (List.mem_append_left _ (List.mem_append_left _ (List.mem_append_left _ (List.mem_append_left _ (List.mem_append_right _ (h))))))))
  have iX6 : ∀ q ∈ wsX60, q ∈ wsX7_init := fun q h => List.mem_cons_of_mem _ (List.mem_append_left _ (List.mem_append_left _ (List.mem_append_left _ (List.mem_append_left _ (List.mem_append_right _ (h))))))
  have iX5 : ∀ q ∈ wsX50, q ∈ wsX7_init := fun q h => List.mem_cons_of_mem _ (List.mem_append_left _ (List.mem_append_left _ (List.mem_append_left _ (List.mem_append_right _ (h)))))
  have iX3 : ∀ q ∈ wsX30, q ∈ wsX7_init := fun q h => List.mem_cons_of_mem _ (List.mem_append_left _ (List.mem_append_left _ (List.mem_append_right _ (h))))
  have iX0 : ∀ q ∈ wsX00, q ∈ wsX7_init := fun q h => List.mem_cons_of_mem _ (List.mem_append_left _ (List.mem_append_right _ (h)))
  have F := (⟨hx, hb, hml, hown, hts⟩ : CallFix p m c cX7_init 1 s _ wsX7_init RX7)
  refine lv_aload_n hx hb dX7_init_0 rfl (lv_at hl 0 rfl) ?_
  refine W.objInit hx hb hown (hts (.methodLink RX7 1 objectInit) (List.mem_of_getElem? (i := 1) rfl)) (hts (.instanceMethod objectInit) (List.mem_of_getElem? (i := 2) rfl)) (hts _ (List.mem_of_getElem? (i := 3) rfl)) rfl (by rw [hml]; exact hl.1) rfl dX7_init_1 (Nat.le_of_ble_eq_true rfl) (Nat.le_of_ble_eq_true rfl) ?_
  refine W.eq (g2 := F0 m 4 ls []) rfl ?_
  obtain ⟨X0, hX0⟩ : ∃ X : va_W, X = [] := ⟨_, rfl⟩
  rw [← hX0] at hP hD
  refine lv_aload_n hx hb dX7_init_4 rfl (lv_at hl 0 rfl) ?_
  refine va_new (ci := 3) (fs := [.int 0, .int 0, .int 0, .int 0, .int 0, .null, .null, .null, .null]) (C := RX4) (T := TX4) (N := 9) hx hb hts iX4 tyX4 tyX4_ok hown (hts (.classLink RX7 7 RX4) (List.mem_of_getElem? (i := 4) rfl)) (hts (.instantiable RX4 9) (List.mem_of_getElem? (i := 5) rfl)) (hts (.initialized RX4) (List.mem_of_getElem? (i := 6) rfl)) hK hP hD hS hA rfl df_X4 (Nat.le_of_ble_eq_true rfl) (Nat.le_of_ble_eq_true rfl) dX7_init_5 (fun p0 H hP hD hS => ?_)
  refine lv_dup hx hb dX7_init_8 rfl ?_
  refine cI (W0 := ((h, .inr (6, [.null, .null, .null, .null, .null, .null, .null, .null, .null, .int 0, .int 0, .int 0])) :: X0)) (rest := [.ref p0, .ref h]) F (c_X4_init l D Y p0 H.size) (cwI 0 hts gX7_init_X4_init rfl rfl rfl (hts (.initialized RX4) (List.mem_of_getElem? (i := 6) rfl)) (hts (.methodLink RX7 9 yX4_init) (List.mem_of_getElem? (i := 30) rfl)) (hts (.instanceMethod yX4_init) (List.mem_of_getElem? (i := 31) rfl)) rfl (by decide +kernel) ⟨(Nat.le_of_ble_eq_true rfl), (Nat.le_of_ble_eq_true rfl)⟩) hK hC hP hD hS hA hl.1 (Nat.le_of_ble_eq_true rfl) ⟨(Nat.le_of_ble_eq_true rfl), (Nat.le_of_ble_eq_true rfl)⟩ dX7_init_9 (fun u0 H locs hP hD hS => ?_)
  have hP : va_P D vwCl ((h, .inr (6, [.null, .null, .null, .null, .null, .null, .null, .null, .null, .int 0, .int 0, .int 0])) :: (X0 ++ pgW Y p0 u0)) H := hP
  have hD : va_D A ((h, .inr (6, [.null, .null, .null, .null, .null, .null, .null, .null, .null, .int 0, .int 0, .int 0])) :: (X0 ++ pgW Y p0 u0)) := hD
  obtain ⟨X1, hX1⟩ : ∃ X : va_W, X = (X0 ++ pgW Y p0 u0) := ⟨_, rfl⟩
  rw [← hX1] at hP hD
  refine va_putF (D := D) (ci := 6) (v := .ref p0) (ty := .object "SoldStops$Page") (C := RX7) (T := TX7) (N := 12) hx hb hts iX tyX7 tyX7_ok nmX7 hown hK hP hD hS 0 rfl rfl 0 (by decide) (hts (.fieldLink RX7 10 "SoldStops" "page" "LSoldStops$Page;") (List.mem_of_getElem? (i := 7) rfl)) (fun _ h9 => h9) rfl hin rfl (by decide +kernel) rfl rfl (Nat.le_of_ble_eq_true rfl) dX7_init_12 (fun H locs hP hD hS => ?_)
  have hP : va_P D vwCl ((h, .inr (6, [.ref p0, .null, .null, .null, .null, .null, .null, .null, .null, .int 0, .int 0, .int 0])) :: X1) H := hP
  have hD : va_D A ((h, .inr (6, [.ref p0, .null, .null, .null, .null, .null, .null, .null, .null, .int 0, .int 0, .int 0])) :: X1) := hD
  refine lv_aload_n hx hb dX7_init_15 rfl (lv_at hl 0 rfl) ?_
  refine va_new (ci := 3) (fs := [.int 0, .int 0, .int 0, .int 0, .int 0, .null, .null, .null, .null]) (C := RX4) (T := TX4) (N := 9) hx hb hts iX4 tyX4 tyX4_ok hown (hts (.classLink RX7 7 RX4) (List.mem_of_getElem? (i := 4) rfl)) (hts (.instantiable RX4 9) (List.mem_of_getElem? (i := 5) rfl)) (hts (.initialized RX4) (List.mem_of_getElem? (i := 6) rfl)) hK hP hD hS hA rfl df_X4 (Nat.le_of_ble_eq_true rfl) (Nat.le_of_ble_eq_true rfl) dX7_init_16 (fun p1 H hP hD hS => ?_)
  refine lv_dup hx hb dX7_init_19 rfl ?_
  refine cI (W0 := ((h, .inr (6, [.ref p0, .null, .null, .null, .null, .null, .null, .null, .null, .int 0, .int 0, .int 0])) :: X1)) (rest := [.ref p1, .ref h]) F (c_X4_init l D Y p1 H.size) (cwI 0 hts gX7_init_X4_init rfl rfl rfl (hts (.initialized RX4) (List.mem_of_getElem? (i := 6) rfl)) (hts (.methodLink RX7 9 yX4_init) (List.mem_of_getElem? (i := 30) rfl)) (hts (.instanceMethod yX4_init) (List.mem_of_getElem? (i := 31) rfl)) rfl (by decide +kernel) ⟨(Nat.le_of_ble_eq_true rfl), (Nat.le_of_ble_eq_true rfl)⟩) hK hC hP hD hS hA hl.1 (Nat.le_of_ble_eq_true rfl) ⟨(Nat.le_of_ble_eq_true rfl), (Nat.le_of_ble_eq_true rfl)⟩ dX7_init_20 (fun u1 H locs hP hD hS => ?_)
  have hP : va_P D vwCl ((h, .inr (6, [.ref p0, .null, .null, .null, .null, .null, .null, .null, .null, .int 0, .int 0, .int 0])) :: (X1 ++ pgW Y p1 u1)) H := hP
  have hD : va_D A ((h, .inr (6, [.ref p0, .null, .null, .null, .null, .null, .null, .null, .null, .int 0, .int 0, .int 0])) :: (X1 ++ pgW Y p1 u1)) := hD
  obtain ⟨X2, hX2⟩ : ∃ X : va_W, X = (X1 ++ pgW Y p1 u1) := ⟨_, rfl⟩
  rw [← hX2] at hP hD
  refine va_putF (D := D) (ci := 6) (v := .ref p1) (ty := .object "SoldStops$Page") (C := RX7) (T := TX7) (N := 12) hx hb hts iX tyX7 tyX7_ok nmX7 hown hK hP hD hS 0 rfl rfl 1 (by decide) (hts (.fieldLink RX7 16 "SoldStops" "spare" "LSoldStops$Page;") (List.mem_of_getElem? (i := 8) rfl)) (fun _ h9 => h9) rfl hin rfl (by decide +kernel) rfl rfl (Nat.le_of_ble_eq_true rfl) dX7_init_23 (fun H locs hP hD hS => ?_)
  have hP : va_P D vwCl ((h, .inr (6, [.ref p0, .ref p1, .null, .null, .null, .null, .null, .null, .null, .int 0, .int 0, .int 0])) :: X2) H := hP
  have hD : va_D A ((h, .inr (6, [.ref p0, .ref p1, .null, .null, .null, .null, .null, .null, .null, .int 0, .int 0, .int 0])) :: X2) := hD
  refine lv_aload_n hx hb dX7_init_26 rfl (lv_at hl 0 rfl) ?_
  refine lv_iconst (v := (2 : Int32)) hx hb dX7_init_27 (by decide) ?_
  refine nwQ (C := RX4) (t0 := 4) (by decide) hx hb hown (hts (.classLink RX7 7 RX4) (List.mem_of_getElem? (i := 4) rfl)) hC.2.2.1 rfl hK hP hD hS hA (by decide) (N' := 2) (by decide) (Nat.le_of_ble_eq_true rfl) (Nat.le_of_ble_eq_true rfl) (Nat.le_of_ble_eq_true rfl) dX7_init_28 (fun im H hP hD hS => ?_)
  have hP := va_P2 hP
  have hD := va_D2 hD
  have hP : va_P D vwCl ((h, .inr (6, [.ref p0, .ref p1, .null, .null, .null, .null, .null, .null, .null, .int 0, .int 0, .int 0])) :: (im, qE (Y 4) 2 (fun _ => none)) :: X2) H := hP
  have hD : va_D A ((h, .inr (6, [.ref p0, .ref p1, .null, .null, .null, .null, .null, .null, .null, .int 0, .int 0, .int 0])) :: (im, qE (Y 4) 2 (fun _ => none)) :: X2) := hD
  refine lv_dup hx hb dX7_init_31 rfl ?_
  refine lv_iconst (v := (0 : Int32)) hx hb dX7_init_32 (by decide) ?_
  refine va_new (ci := 3) (fs := [.int 0, .int 0, .int 0, .int 0, .int 0, .null, .null, .null, .null]) (C := RX4) (T := TX4) (N := 9) hx hb hts iX4 tyX4 tyX4_ok hown (hts (.classLink RX7 7 RX4) (List.mem_of_getElem? (i := 4) rfl)) (hts (.instantiable RX4 9) (List.mem_of_getElem? (i := 5) rfl)) (hts (.initialized RX4) (List.mem_of_getElem? (i := 6) rfl)) hK hP hD hS hA rfl df_X4 (Nat.le_of_ble_eq_true rfl) (Nat.le_of_ble_eq_true rfl) dX7_init_33 (fun p2 H hP hD hS => ?_)
  refine lv_dup hx hb dX7_init_36 rfl ?_
  refine cI (W0 := ((h, .inr (6, [.ref p0, .ref p1, .null, .null, .null, .null, .null, .null, .null, .int 0, .int 0, .int 0])) :: (im, qE (Y 4) 2 (fun _ => none)) :: X2)) (rest := [.ref p2, .int (0 : Int32), .ref im, .ref im, .ref h]) F (c_X4_init l D Y p2 H.size) (cwI 0 hts gX7_init_X4_init rfl rfl rfl (hts (.initialized RX4) (List.mem_of_getElem? (i := 6) rfl)) (hts (.methodLink RX7 9 yX4_init) (List.mem_of_getElem? (i := 30) rfl)) (hts (.instanceMethod yX4_init) (List.mem_of_getElem? (i := 31) rfl)) rfl (by decide +kernel) ⟨(Nat.le_of_ble_eq_true rfl), (Nat.le_of_ble_eq_true rfl)⟩) hK hC hP hD hS hA hl.1 (Nat.le_of_ble_eq_true rfl) ⟨(Nat.le_of_ble_eq_true rfl), (Nat.le_of_ble_eq_true rfl)⟩ dX7_init_37 (fun u2 H locs hP hD hS => ?_)
  have hP : va_P D vwCl ((h, .inr (6, [.ref p0, .ref p1, .null, .null, .null, .null, .null, .null, .null, .int 0, .int 0, .int 0])) :: (im, qE (Y 4) 2 (fun _ => none)) :: (X2 ++ pgW Y p2 u2)) H := hP
  have hD : va_D A ((h, .inr (6, [.ref p0, .ref p1, .null, .null, .null, .null, .null, .null, .null, .int 0, .int 0, .int 0])) :: (im, qE (Y 4) 2 (fun _ => none)) :: (X2 ++ pgW Y p2 u2)) := hD
  obtain ⟨X3, hX3⟩ : ∃ X : va_W, X = (X2 ++ pgW Y p2 u2) := ⟨_, rfl⟩
  rw [← hX3] at hP hD
  have hv : ((h, .inr (6, [.ref p0, .ref p1, .null, .null, .null, .null, .null, .null, .null, .int 0, .int 0, .int 0])) :: (im, qE (Y 4) 2 (fun _ => none)) :: X3)[X2.length + 2]? = some (p2, .inr (3, pgO u2)) := by
    rw [hX3]
    exact va_lastc
  refine va_astq (r := (RX4, TX4, 9)) hx hb hK hP hD hS 1 4 _ 3 rfl rfl hv rfl (gd_in (by decide)) dX7_init_40 (fun H locs hP hD hS => ?_)
  rw [show (0 : Int32).toNatClampNeg = 0 from by decide] at hP hD
  have hP : va_P D vwCl ((h, .inr (6, [.ref p0, .ref p1, .null, .null, .null, .null, .null, .null, .null, .int 0, .int 0, .int 0])) :: (im, qE (Y 4) 2 (va_up (fun _ => none) 0 (some p2))) :: X3) H := hP
  have hD : va_D A ((h, .inr (6, [.ref p0, .ref p1, .null, .null, .null, .null, .null, .null, .null, .int 0, .int 0, .int 0])) :: (im, qE (Y 4) 2 (va_up (fun _ => none) 0 (some p2))) :: X3) := hD
  refine lv_dup hx hb dX7_init_41 rfl ?_
  refine lv_iconst (v := (1 : Int32)) hx hb dX7_init_42 (by decide) ?_
  refine va_new (ci := 3) (fs := [.int 0, .int 0, .int 0, .int 0, .int 0, .null, .null, .null, .null]) (C := RX4) (T := TX4) (N := 9) hx hb hts iX4 tyX4 tyX4_ok hown (hts (.classLink RX7 7 RX4) (List.mem_of_getElem? (i := 4) rfl)) (hts (.instantiable RX4 9) (List.mem_of_getElem? (i := 5) rfl)) (hts (.initialized RX4) (List.mem_of_getElem? (i := 6) rfl)) hK hP hD hS hA rfl df_X4 (Nat.le_of_ble_eq_true rfl) (Nat.le_of_ble_eq_true rfl) dX7_init_43 (fun p3 H hP hD hS => ?_)
  refine lv_dup hx hb dX7_init_46 rfl ?_
  refine cI (W0 := ((h, .inr (6, [.ref p0, .ref p1, .null, .null, .null, .null, .null, .null, .null, .int 0, .int 0, .int 0])) :: (im, qE (Y 4) 2 (va_up (fun _ => none) 0 (some p2))) :: X3)) (rest := [.ref p3, .int (1 : Int32), .ref im, .ref im, .ref h]) F (c_X4_init l D Y p3 H.size) (cwI 0 hts gX7_init_X4_init rfl rfl rfl (hts (.initialized RX4) (List.mem_of_getElem? (i := 6) rfl)) (hts (.methodLink RX7 9 yX4_init) (List.mem_of_getElem? (i := 30) rfl)) (hts (.instanceMethod yX4_init) (List.mem_of_getElem? (i := 31) rfl)) rfl (by decide +kernel) ⟨(Nat.le_of_ble_eq_true rfl), (Nat.le_of_ble_eq_true rfl)⟩) hK hC hP hD hS hA hl.1 (Nat.le_of_ble_eq_true rfl) ⟨(Nat.le_of_ble_eq_true rfl), (Nat.le_of_ble_eq_true rfl)⟩ dX7_init_47 (fun u3 H locs hP hD hS => ?_)
  have hP : va_P D vwCl ((h, .inr (6, [.ref p0, .ref p1, .null, .null, .null, .null, .null, .null, .null, .int 0, .int 0, .int 0])) :: (im, qE (Y 4) 2 (va_up (fun _ => none) 0 (some p2))) :: (X3 ++ pgW Y p3 u3)) H := hP
  have hD : va_D A ((h, .inr (6, [.ref p0, .ref p1, .null, .null, .null, .null, .null, .null, .null, .int 0, .int 0, .int 0])) :: (im, qE (Y 4) 2 (va_up (fun _ => none) 0 (some p2))) :: (X3 ++ pgW Y p3 u3)) := hD
  obtain ⟨X4, hX4⟩ : ∃ X : va_W, X = (X3 ++ pgW Y p3 u3) := ⟨_, rfl⟩
  rw [← hX4] at hP hD
  have hv : ((h, .inr (6, [.ref p0, .ref p1, .null, .null, .null, .null, .null, .null, .null, .int 0, .int 0, .int 0])) :: (im, qE (Y 4) 2 (va_up (fun _ => none) 0 (some p2))) :: X4)[X3.length + 2]? = some (p3, .inr (3, pgO u3)) := by
    rw [hX4]
    exact va_lastc
  refine va_astq (r := (RX4, TX4, 9)) hx hb hK hP hD hS 1 4 _ 3 rfl rfl hv rfl (gd_in (by decide)) dX7_init_50 (fun H locs hP hD hS => ?_)
  rw [show (1 : Int32).toNatClampNeg = 1 from by decide] at hP hD
  have hP : va_P D vwCl ((h, .inr (6, [.ref p0, .ref p1, .null, .null, .null, .null, .null, .null, .null, .int 0, .int 0, .int 0])) :: (im, qE (Y 4) 2 (va_up (va_up (fun _ => none) 0 (some p2)) 1 (some p3))) :: X4) H := hP
  have hD : va_D A ((h, .inr (6, [.ref p0, .ref p1, .null, .null, .null, .null, .null, .null, .null, .int 0, .int 0, .int 0])) :: (im, qE (Y 4) 2 (va_up (va_up (fun _ => none) 0 (some p2)) 1 (some p3))) :: X4) := hD
  refine va_putF (D := D) (ci := 6) (v := .ref im) (ty := .array (.object "SoldStops$Page")) (C := RX7) (T := TX7) (N := 12) hx hb hts iX tyX7 tyX7_ok nmX7 hown hK hP hD hS 0 rfl rfl 2 (by decide) (hts (.fieldLink RX7 19 "SoldStops" "images" "[LSoldStops$Page;") (List.mem_of_getElem? (i := 9) rfl)) (fun _ h9 => h9) rfl hin rfl (by decide +kernel) rfl rfl (Nat.le_of_ble_eq_true rfl) dX7_init_51 (fun H locs hP hD hS => ?_)
  have hP : va_P D vwCl ((h, .inr (6, [.ref p0, .ref p1, .ref im, .null, .null, .null, .null, .null, .null, .int 0, .int 0, .int 0])) :: (im, qE (Y 4) 2 (va_up (va_up (fun _ => none) 0 (some p2)) 1 (some p3))) :: X4) H := hP
  have hD : va_D A ((h, .inr (6, [.ref p0, .ref p1, .ref im, .null, .null, .null, .null, .null, .null, .int 0, .int 0, .int 0])) :: (im, qE (Y 4) 2 (va_up (va_up (fun _ => none) 0 (some p2)) 1 (some p3))) :: X4) := hD
  refine lv_aload_n hx hb dX7_init_54 rfl (lv_at hl 0 rfl) ?_
  refine lv_iconst (v := (2 : Int32)) hx hb dX7_init_55 (by decide) ?_
  refine nwZ hx hb (hts (.arrayClass .boolean) (List.mem_of_getElem? (i := 10) rfl)) hK hP hD hS hA (by decide) (N' := 2) (by decide) (Nat.le_of_ble_eq_true rfl) (Nat.le_of_ble_eq_true rfl) (Nat.le_of_ble_eq_true rfl) dX7_init_56 (fun kp H hP hD hS => ?_)
  have hP : va_P D vwCl ((h, .inr (6, [.ref p0, .ref p1, .ref im, .null, .null, .null, .null, .null, .null, .int 0, .int 0, .int 0])) :: (im, qE (Y 4) 2 (va_up (va_up (fun _ => none) 0 (some p2)) 1 (some p3))) :: (X4 ++ [(kp, .inl (Y 2, 2, .inl (fun _ => 0)))])) H := hP
  have hD : va_D A ((h, .inr (6, [.ref p0, .ref p1, .ref im, .null, .null, .null, .null, .null, .null, .int 0, .int 0, .int 0])) :: (im, qE (Y 4) 2 (va_up (va_up (fun _ => none) 0 (some p2)) 1 (some p3))) :: (X4 ++ [(kp, .inl (Y 2, 2, .inl (fun _ => 0)))])) := hD
  obtain ⟨X5, hX5⟩ : ∃ X : va_W, X = (X4 ++ [(kp, .inl (Y 2, 2, .inl (fun _ => 0)))]) := ⟨_, rfl⟩
  rw [← hX5] at hP hD
  refine va_putF (D := D) (ci := 6) (v := .ref kp) (ty := .array .boolean) (C := RX7) (T := TX7) (N := 12) hx hb hts iX tyX7 tyX7_ok nmX7 hown hK hP hD hS 0 rfl rfl 3 (by decide) (hts (.fieldLink RX7 23 "SoldStops" "kept" "[Z") (List.mem_of_getElem? (i := 11) rfl)) (fun _ h9 => h9) rfl hin rfl (by decide +kernel) rfl rfl (Nat.le_of_ble_eq_true rfl) dX7_init_58 (fun H locs hP hD hS => ?_)
  have hP : va_P D vwCl ((h, .inr (6, [.ref p0, .ref p1, .ref im, .ref kp, .null, .null, .null, .null, .null, .int 0, .int 0, .int 0])) :: (im, qE (Y 4) 2 (va_up (va_up (fun _ => none) 0 (some p2)) 1 (some p3))) :: X5) H := hP
  have hD : va_D A ((h, .inr (6, [.ref p0, .ref p1, .ref im, .ref kp, .null, .null, .null, .null, .null, .int 0, .int 0, .int 0])) :: (im, qE (Y 4) 2 (va_up (va_up (fun _ => none) 0 (some p2)) 1 (some p3))) :: X5) := hD
  refine lv_aload_n hx hb dX7_init_61 rfl (lv_at hl 0 rfl) ?_
  refine va_new (ci := 5) (fs := [.int 0, .int 0, .null, .null, .null, .null, .int 0, .int 0, .int 0, .int 0]) (C := RX6) (T := TX6) (N := 10) hx hb hts iX6 tyX6 tyX6_ok hown (hts (.classLink RX7 27 RX6) (List.mem_of_getElem? (i := 12) rfl)) (hts (.instantiable RX6 10) (List.mem_of_getElem? (i := 13) rfl)) (hts (.initialized RX6) (List.mem_of_getElem? (i := 14) rfl)) hK hP hD hS hA rfl df_X6 (Nat.le_of_ble_eq_true rfl) (Nat.le_of_ble_eq_true rfl) dX7_init_62 (fun tx H hP hD hS => ?_)
  refine lv_dup hx hb dX7_init_65 rfl ?_
  refine cN (W0 := ((h, .inr (6, [.ref p0, .ref p1, .ref im, .ref kp, .null, .null, .null, .null, .null, .int 0, .int 0, .int 0])) :: (im, qE (Y 4) 2 (va_up (va_up (fun _ => none) 0 (some p2)) 1 (some p3))) :: X5)) (rest := [.ref tx, .ref h]) F (c_X6_init l D Y tx H.size) ⟨va_cnB 0 hts gX7_init_X6_init_n29 rfl rfl rfl hC.1.2.1 (hts (.initialized RX6) (List.mem_of_getElem? (i := 14) rfl)) (by decide +kernel) ⟨(Nat.le_of_ble_eq_true rfl), (Nat.le_of_ble_eq_true rfl)⟩, rfl, hts (.instanceMethod yX6_init) (List.mem_of_getElem? (i := 48) rfl)⟩ hK hC hP hD hS hA hl.1 (Nat.le_of_ble_eq_true rfl) ⟨(Nat.le_of_ble_eq_true rfl), (Nat.le_of_ble_eq_true rfl)⟩ dX7_init_66 (fun ⟨t0, t1, t2, t3⟩ H locs hP hD hS => ?_)
  have hP : va_P D vwCl ((h, .inr (6, [.ref p0, .ref p1, .ref im, .ref kp, .null, .null, .null, .null, .null, .int 0, .int 0, .int 0])) :: (im, qE (Y 4) 2 (va_up (va_up (fun _ => none) 0 (some p2)) 1 (some p3))) :: (X5 ++ txW Y tx t0 t1 t2 t3)) H := hP
  have hD : va_D A ((h, .inr (6, [.ref p0, .ref p1, .ref im, .ref kp, .null, .null, .null, .null, .null, .int 0, .int 0, .int 0])) :: (im, qE (Y 4) 2 (va_up (va_up (fun _ => none) 0 (some p2)) 1 (some p3))) :: (X5 ++ txW Y tx t0 t1 t2 t3)) := hD
  obtain ⟨X6, hX6⟩ : ∃ X : va_W, X = (X5 ++ txW Y tx t0 t1 t2 t3) := ⟨_, rfl⟩
  rw [← hX6] at hP hD
  refine va_putF (D := D) (ci := 6) (v := .ref tx) (ty := .object "SoldStops$Text") (C := RX7) (T := TX7) (N := 12) hx hb hts iX tyX7 tyX7_ok nmX7 hown hK hP hD hS 0 rfl rfl 4 (by decide) (hts (.fieldLink RX7 30 "SoldStops" "text" "LSoldStops$Text;") (List.mem_of_getElem? (i := 15) rfl)) (fun _ h9 => h9) rfl hin rfl (by decide +kernel) rfl rfl (Nat.le_of_ble_eq_true rfl) dX7_init_69 (fun H locs hP hD hS => ?_)
  have hP : va_P D vwCl ((h, .inr (6, [.ref p0, .ref p1, .ref im, .ref kp, .ref tx, .null, .null, .null, .null, .int 0, .int 0, .int 0])) :: (im, qE (Y 4) 2 (va_up (va_up (fun _ => none) 0 (some p2)) 1 (some p3))) :: X6) H := hP
  have hD : va_D A ((h, .inr (6, [.ref p0, .ref p1, .ref im, .ref kp, .ref tx, .null, .null, .null, .null, .int 0, .int 0, .int 0])) :: (im, qE (Y 4) 2 (va_up (va_up (fun _ => none) 0 (some p2)) 1 (some p3))) :: X6) := hD
  refine lv_aload_n hx hb dX7_init_72 rfl (lv_at hl 0 rfl) ?_
  refine va_new (ci := 4) (fs := [.null, .null, .null, .null, .null]) (C := RX5) (T := TX5) (N := 5) hx hb hts iX5 tyX5 tyX5_ok hown (hts (.classLink RX7 34 RX5) (List.mem_of_getElem? (i := 16) rfl)) (hts (.instantiable RX5 5) (List.mem_of_getElem? (i := 17) rfl)) (hts (.initialized RX5) (List.mem_of_getElem? (i := 18) rfl)) hK hP hD hS hA rfl df_X5 (Nat.le_of_ble_eq_true rfl) (Nat.le_of_ble_eq_true rfl) dX7_init_73 (fun pl H hP hD hS => ?_)
  refine lv_dup hx hb dX7_init_76 rfl ?_
  refine cN (W0 := ((h, .inr (6, [.ref p0, .ref p1, .ref im, .ref kp, .ref tx, .null, .null, .null, .null, .int 0, .int 0, .int 0])) :: (im, qE (Y 4) 2 (va_up (va_up (fun _ => none) 0 (some p2)) 1 (some p3))) :: X6)) (rest := [.ref pl, .ref h]) F (c_X5_init l D Y pl H.size) ⟨va_cnB 0 hts gX7_init_X5_init_n36 rfl rfl rfl hC.1.2.2.1 (hts (.initialized RX5) (List.mem_of_getElem? (i := 18) rfl)) (by decide +kernel) ⟨(Nat.le_of_ble_eq_true rfl), (Nat.le_of_ble_eq_true rfl)⟩, rfl, hts (.instanceMethod yX5_init) (List.mem_of_getElem? (i := 55) rfl)⟩ hK hC hP hD hS hA hl.1 (Nat.le_of_ble_eq_true rfl) ⟨(Nat.le_of_ble_eq_true rfl), (Nat.le_of_ble_eq_true rfl)⟩ dX7_init_77 (fun v H locs hP hD hS => ?_)
  have hP : va_P D vwCl ((h, .inr (6, [.ref p0, .ref p1, .ref im, .ref kp, .ref tx, .null, .null, .null, .null, .int 0, .int 0, .int 0])) :: (im, qE (Y 4) 2 (va_up (va_up (fun _ => none) 0 (some p2)) 1 (some p3))) :: (X6 ++ plV Y pl v.1 v.2.1 v.2.2.1 v.2.2.2)) H := hP
  have hD : va_D A ((h, .inr (6, [.ref p0, .ref p1, .ref im, .ref kp, .ref tx, .null, .null, .null, .null, .int 0, .int 0, .int 0])) :: (im, qE (Y 4) 2 (va_up (va_up (fun _ => none) 0 (some p2)) 1 (some p3))) :: (X6 ++ plV Y pl v.1 v.2.1 v.2.2.1 v.2.2.2)) := hD
  obtain ⟨X7, hX7⟩ : ∃ X : va_W, X = (X6 ++ plV Y pl v.1 v.2.1 v.2.2.1 v.2.2.2) := ⟨_, rfl⟩
  rw [← hX7] at hP hD
  refine va_putF (D := D) (ci := 6) (v := .ref pl) (ty := .object "SoldStops$Plan") (C := RX7) (T := TX7) (N := 12) hx hb hts iX tyX7 tyX7_ok nmX7 hown hK hP hD hS 0 rfl rfl 5 (by decide) (hts (.fieldLink RX7 37 "SoldStops" "plan" "LSoldStops$Plan;") (List.mem_of_getElem? (i := 19) rfl)) (fun _ h9 => h9) rfl hin rfl (by decide +kernel) rfl rfl (Nat.le_of_ble_eq_true rfl) dX7_init_80 (fun H locs hP hD hS => ?_)
  have hP : va_P D vwCl ((h, .inr (6, [.ref p0, .ref p1, .ref im, .ref kp, .ref tx, .ref pl, .null, .null, .null, .int 0, .int 0, .int 0])) :: (im, qE (Y 4) 2 (va_up (va_up (fun _ => none) 0 (some p2)) 1 (some p3))) :: X7) H := hP
  have hD : va_D A ((h, .inr (6, [.ref p0, .ref p1, .ref im, .ref kp, .ref tx, .ref pl, .null, .null, .null, .int 0, .int 0, .int 0])) :: (im, qE (Y 4) 2 (va_up (va_up (fun _ => none) 0 (some p2)) 1 (some p3))) :: X7) := hD
  refine lv_aload_n hx hb dX7_init_83 rfl (lv_at hl 0 rfl) ?_
  refine va_new (ci := 2) (fs := [.int 0, .null, .null, .null]) (C := RX3) (T := TX3) (N := 4) hx hb hts iX3 tyX3 tyX3_ok hown (hts (.classLink RX7 41 RX3) (List.mem_of_getElem? (i := 20) rfl)) (hts (.instantiable RX3 4) (List.mem_of_getElem? (i := 21) rfl)) (hts (.initialized RX3) (List.mem_of_getElem? (i := 22) rfl)) hK hP hD hS hA rfl df_X3 (Nat.le_of_ble_eq_true rfl) (Nat.le_of_ble_eq_true rfl) dX7_init_84 (fun od H hP hD hS => ?_)
  refine lv_dup hx hb dX7_init_87 rfl ?_
  refine cN (W0 := ((h, .inr (6, [.ref p0, .ref p1, .ref im, .ref kp, .ref tx, .ref pl, .null, .null, .null, .int 0, .int 0, .int 0])) :: (im, qE (Y 4) 2 (va_up (va_up (fun _ => none) 0 (some p2)) 1 (some p3))) :: X7)) (rest := [.ref od, .ref h]) F (c_X3_init l D Y od H.size) ⟨va_cnB 0 hts gX7_init_X3_init_n43 rfl rfl rfl hC.1.2.2.2.1 (hts (.initialized RX3) (List.mem_of_getElem? (i := 22) rfl)) (by decide +kernel) ⟨(Nat.le_of_ble_eq_true rfl), (Nat.le_of_ble_eq_true rfl)⟩, rfl, hts (.instanceMethod yX3_init) (List.mem_of_getElem? (i := 64) rfl)⟩ hK hC hP hD hS hA hl.1 (Nat.le_of_ble_eq_true rfl) ⟨(Nat.le_of_ble_eq_true rfl), (Nat.le_of_ble_eq_true rfl)⟩ dX7_init_88 (fun ⟨o0, o1, o2⟩ H locs hP hD hS => ?_)
  have hP : va_P D vwCl ((h, .inr (6, [.ref p0, .ref p1, .ref im, .ref kp, .ref tx, .ref pl, .null, .null, .null, .int 0, .int 0, .int 0])) :: (im, qE (Y 4) 2 (va_up (va_up (fun _ => none) 0 (some p2)) 1 (some p3))) :: (X7 ++ orW Y od o0 o1 o2)) H := hP
  have hD : va_D A ((h, .inr (6, [.ref p0, .ref p1, .ref im, .ref kp, .ref tx, .ref pl, .null, .null, .null, .int 0, .int 0, .int 0])) :: (im, qE (Y 4) 2 (va_up (va_up (fun _ => none) 0 (some p2)) 1 (some p3))) :: (X7 ++ orW Y od o0 o1 o2)) := hD
  obtain ⟨X8, hX8⟩ : ∃ X : va_W, X = (X7 ++ orW Y od o0 o1 o2) := ⟨_, rfl⟩
  rw [← hX8] at hP hD
  refine va_putF (D := D) (ci := 6) (v := .ref od) (ty := .object "SoldStops$Order") (C := RX7) (T := TX7) (N := 12) hx hb hts iX tyX7 tyX7_ok nmX7 hown hK hP hD hS 0 rfl rfl 6 (by decide) (hts (.fieldLink RX7 44 "SoldStops" "order" "LSoldStops$Order;") (List.mem_of_getElem? (i := 23) rfl)) (fun _ h9 => h9) rfl hin rfl (by decide +kernel) rfl rfl (Nat.le_of_ble_eq_true rfl) dX7_init_91 (fun H locs hP hD hS => ?_)
  have hP : va_P D vwCl ((h, .inr (6, [.ref p0, .ref p1, .ref im, .ref kp, .ref tx, .ref pl, .ref od, .null, .null, .int 0, .int 0, .int 0])) :: (im, qE (Y 4) 2 (va_up (va_up (fun _ => none) 0 (some p2)) 1 (some p3))) :: X8) H := hP
  have hD : va_D A ((h, .inr (6, [.ref p0, .ref p1, .ref im, .ref kp, .ref tx, .ref pl, .ref od, .null, .null, .int 0, .int 0, .int 0])) :: (im, qE (Y 4) 2 (va_up (va_up (fun _ => none) 0 (some p2)) 1 (some p3))) :: X8) := hD
  refine lv_aload_n hx hb dX7_init_94 rfl (lv_at hl 0 rfl) ?_
  refine va_new (ci := 0) (fs := [.long 0, .long 0, .null, .null]) (C := RX0) (T := TX0) (N := 4) hx hb hts iX0 tyX0 tyX0_ok hown (hts (.classLink RX7 48 RX0) (List.mem_of_getElem? (i := 24) rfl)) (hts (.instantiable RX0 4) (List.mem_of_getElem? (i := 25) rfl)) (hts (.initialized RX0) (List.mem_of_getElem? (i := 26) rfl)) hK hP hD hS hA rfl df_X0 (Nat.le_of_ble_eq_true rfl) (Nat.le_of_ble_eq_true rfl) dX7_init_95 (fun ch H hP hD hS => ?_)
  refine lv_dup hx hb dX7_init_98 rfl ?_
  refine cN (W0 := ((h, .inr (6, [.ref p0, .ref p1, .ref im, .ref kp, .ref tx, .ref pl, .ref od, .null, .null, .int 0, .int 0, .int 0])) :: (im, qE (Y 4) 2 (va_up (va_up (fun _ => none) 0 (some p2)) 1 (some p3))) :: X8)) (rest := [.ref ch, .ref h]) F (c_X0_init l D Y ch H.size) ⟨va_cnB 0 hts gX7_init_X0_init_n50 rfl rfl rfl hC.1.2.2.2.2 (hts (.initialized RX0) (List.mem_of_getElem? (i := 26) rfl)) (by decide +kernel) ⟨(Nat.le_of_ble_eq_true rfl), (Nat.le_of_ble_eq_true rfl)⟩, rfl, hts (.instanceMethod yX0_init) (List.mem_of_getElem? (i := 70) rfl)⟩ hK hC hP hD hS hA hl.1 (Nat.le_of_ble_eq_true rfl) ⟨(Nat.le_of_ble_eq_true rfl), (Nat.le_of_ble_eq_true rfl)⟩ dX7_init_99 (fun ⟨c0, c1⟩ H locs hP hD hS => ?_)
  have hP : va_P D vwCl ((h, .inr (6, [.ref p0, .ref p1, .ref im, .ref kp, .ref tx, .ref pl, .ref od, .null, .null, .int 0, .int 0, .int 0])) :: (im, qE (Y 4) 2 (va_up (va_up (fun _ => none) 0 (some p2)) 1 (some p3))) :: (X8 ++ chW Y ch c0 c1)) H := hP
  have hD : va_D A ((h, .inr (6, [.ref p0, .ref p1, .ref im, .ref kp, .ref tx, .ref pl, .ref od, .null, .null, .int 0, .int 0, .int 0])) :: (im, qE (Y 4) 2 (va_up (va_up (fun _ => none) 0 (some p2)) 1 (some p3))) :: (X8 ++ chW Y ch c0 c1)) := hD
  obtain ⟨X9, hX9⟩ : ∃ X : va_W, X = (X8 ++ chW Y ch c0 c1) := ⟨_, rfl⟩
  rw [← hX9] at hP hD
  refine va_putF (D := D) (ci := 6) (v := .ref ch) (ty := .object "SoldStops$Chance") (C := RX7) (T := TX7) (N := 12) hx hb hts iX tyX7 tyX7_ok nmX7 hown hK hP hD hS 0 rfl rfl 7 (by decide) (hts (.fieldLink RX7 51 "SoldStops" "chance" "LSoldStops$Chance;") (List.mem_of_getElem? (i := 27) rfl)) (fun _ h9 => h9) rfl hin rfl (by decide +kernel) rfl rfl (Nat.le_of_ble_eq_true rfl) dX7_init_102 (fun H locs hP hD hS => ?_)
  have hP : va_P D vwCl ((h, .inr (6, [.ref p0, .ref p1, .ref im, .ref kp, .ref tx, .ref pl, .ref od, .ref ch, .null, .int 0, .int 0, .int 0])) :: (im, qE (Y 4) 2 (va_up (va_up (fun _ => none) 0 (some p2)) 1 (some p3))) :: X9) H := hP
  have hD : va_D A ((h, .inr (6, [.ref p0, .ref p1, .ref im, .ref kp, .ref tx, .ref pl, .ref od, .ref ch, .null, .int 0, .int 0, .int 0])) :: (im, qE (Y 4) 2 (va_up (va_up (fun _ => none) 0 (some p2)) 1 (some p3))) :: X9) := hD
  refine lv_aload_n hx hb dX7_init_105 rfl (lv_at hl 0 rfl) ?_
  refine lv_bipush (v := (13 : Int32)) hx hb dX7_init_106 (by decide) ?_
  refine nwI hx hb (hts (.arrayClass .int) (List.mem_of_getElem? (i := 28) rfl)) hK hP hD hS hA (by decide) (N' := 13) (by decide) (Nat.le_of_ble_eq_true rfl) (Nat.le_of_ble_eq_true rfl) (Nat.le_of_ble_eq_true rfl) dX7_init_108 (fun al H hP hD hS => ?_)
  have hP : va_P D vwCl ((h, .inr (6, [.ref p0, .ref p1, .ref im, .ref kp, .ref tx, .ref pl, .ref od, .ref ch, .null, .int 0, .int 0, .int 0])) :: (im, qE (Y 4) 2 (va_up (va_up (fun _ => none) 0 (some p2)) 1 (some p3))) :: (X9 ++ [(al, iE Y 13)])) H := hP
  have hD : va_D A ((h, .inr (6, [.ref p0, .ref p1, .ref im, .ref kp, .ref tx, .ref pl, .ref od, .ref ch, .null, .int 0, .int 0, .int 0])) :: (im, qE (Y 4) 2 (va_up (va_up (fun _ => none) 0 (some p2)) 1 (some p3))) :: (X9 ++ [(al, iE Y 13)])) := hD
  obtain ⟨X10, hX10⟩ : ∃ X : va_W, X = (X9 ++ [(al, iE Y 13)]) := ⟨_, rfl⟩
  rw [← hX10] at hP hD
  refine va_putF (D := D) (ci := 6) (v := .ref al) (ty := .array .int) (C := RX7) (T := TX7) (N := 12) hx hb hts iX tyX7 tyX7_ok nmX7 hown hK hP hD hS 0 rfl rfl 8 (by decide) (hts (.fieldLink RX7 55 "SoldStops" "alike" "[I") (List.mem_of_getElem? (i := 29) rfl)) (fun _ h9 => h9) rfl hin rfl (by decide +kernel) rfl rfl (Nat.le_of_ble_eq_true rfl) dX7_init_110 (fun H locs hP hD hS => ?_)
  have hP : va_P D vwCl ((h, .inr (6, [.ref p0, .ref p1, .ref im, .ref kp, .ref tx, .ref pl, .ref od, .ref ch, .ref al, .int 0, .int 0, .int 0])) :: (im, qE (Y 4) 2 (va_up (va_up (fun _ => none) 0 (some p2)) 1 (some p3))) :: X10) H := hP
  have hD : va_D A ((h, .inr (6, [.ref p0, .ref p1, .ref im, .ref kp, .ref tx, .ref pl, .ref od, .ref ch, .ref al, .int 0, .int 0, .int 0])) :: (im, qE (Y 4) 2 (va_up (va_up (fun _ => none) 0 (some p2)) 1 (some p3))) :: X10) := hD
  obtain ⟨P, hPd⟩ : ∃ P : Nat → Nat, P = fun i => [p0, p1, p2, p3].getD i 0 := ⟨_, rfl⟩
  have hP := qE_P (a := [(h, .inr (6, [.ref p0, .ref p1, .ref im, .ref kp, .ref tx, .ref pl, .ref od, .ref ch, .ref al, .int 0, .int 0, .int 0]))]) (g := fun i => some (P (2 + i))) hP (fun i hi => by
    rw [hPd]
    match i, hi with
    | 0, _ => rfl
    | 1, _ => rfl)
  have hD := qE_D (a := [(h, .inr (6, [.ref p0, .ref p1, .ref im, .ref kp, .ref tx, .ref pl, .ref od, .ref ch, .ref al, .int 0, .int 0, .int 0]))]) (g := fun i => some (P (2 + i))) hD
  obtain ⟨z, hz⟩ : ∃ z : Nat → Nat, z = fun i => [im, kp, tx, t0, t1, t2, t3, pl, od, o0, o1, o2, ch, c0, c1, al].getD i 0 := ⟨_, rfl⟩
  obtain ⟨U, hU⟩ : ∃ U : Nat → pgS, U = fun i => [u0, u1, u2, u3].getD i u0 := ⟨_, rfl⟩
  have eX : X10 = ssX Y P U z v := by
    rw [hX10, hX9, hX8, hX7, hX6, hX5, hX4, hX3, hX2, hX1, hX0]
    unfold ssX
    simp only [List.append_assoc, List.nil_append, List.cons_append]
    rw [hPd, hz, hU]
    rfl
  rw [eX] at hP hD
  have eW : [(h, .inr (6, [.ref p0, .ref p1, .ref im, .ref kp, .ref tx, .ref pl, .ref od, .ref ch, .ref al, .int 0, .int 0, .int 0]))] ++ (im, qE (Y 4) 2 (fun i => some (P (2 + i)))) :: ssX Y P U z v = ssW Y h (P, U, z, v) := by
    unfold ssW
    have e1 : ssO P z = [.ref p0, .ref p1, .ref im, .ref kp, .ref tx, .ref pl, .ref od, .ref ch, .ref al, .int 0, .int 0, .int 0] := by rw [hPd, hz]; rfl
    have e2 : z 0 = im := by rw [hz]; rfl
    show _ = (h, .inr (6, ssO P z)) :: (z 0, qE (Y 4) 2 (fun i => some (P (2 + i)))) :: ssX Y P U z v
    rw [e1, e2]
    rfl
  rw [eW] at hP hD
  exact W.vret hx hb hr (fun t ht hW => ⟨⟨(P, U, z, v), rfl, trivial, by rw [ht]; exact hP, va_K.moved hW.alike hK, by rw [hAe]; exact hD⟩, hS.F ht⟩) hS.2.2 dX7_init_113 hlocks
