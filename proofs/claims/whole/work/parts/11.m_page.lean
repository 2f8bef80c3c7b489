def f_X4_leftBehind (o : Nat) (p0 : Int32) (p1 : Int32) (p2 : Int32) (p3 : Int32) (σ : ss_M) : Option (Int32 × ss_M) :=
  if p1 ≤ p2 then (if gd p0 12 = true then (ss_bd (f_X1_breathBehind (sA σ 0 o (p0).toNatClampNeg) (p2 - p1) p3 σ) (fun r3 σ3 => some (r3, σ3))) else none) else (some ((-1 : Int32), σ))
def rm_X4_leftBehind : Room := { frames := 4, cells := 0, slots := 0, locals := 200 }
theorem hd_X4_leftBehind : yX4_leftBehind.cls = RX4 ∧ yX4_leftBehind.cls ≠ "java/lang/invoke/MethodHandle" ∧ yX4_leftBehind.cls ≠ "java/lang/invoke/VarHandle" ∧ (parseMethodDescriptor yX4_leftBehind.desc).map (fun d => d.parameters.length) = some 4 := by decide +kernel
set_option maxHeartbeats 4000000 in
set_option maxRecDepth 100000 in
theorem c_X4_leftBehind (l : Launch) {D : va_G} {Y : Nat → ClassId} {A : ss_A} (hAD : AD 0 A) {o : Nat} {p0 : Int32} {p1 : Int32} {p2 : Int32} {p3 : Int32} (ho : o < 4) {r : Int32} {σ σ' : ss_M} (hf : f_X4_leftBehind o p0 p1 p2 p3 σ = some (r, σ')) : Met l yX4_leftBehind wsX4_leftBehind rm_X4_leftBehind (Pc0 0 D Y A σ [.ref (A 0 3 o), .int p0, .int p1, .int p2, .int p3]) (Qi0 0 D Y A r σ') 0 0 (FA 0 A) := by
  rw [f_X4_leftBehind] at hf
  refine Met0 (cc := cX4_leftBehind) (maxL := 5) (ret := (some .int)) (own := RX4) (by decide +kernel) rfl hAD rfl (Nat.le_of_ble_eq_true rfl) ?_
  intro p e s m args below meth c S hr hlocks hW ls hl
  obtain ⟨hx, hb, hml, hown, hts⟩ := id S
  have iX4 : ∀ q ∈ wsX40, q ∈ wsX4_leftBehind := fun q h => List.mem_cons_of_mem _ (List.mem_append_left _ (List.mem_append_right _ (h)))
  have iX2 : ∀ q ∈ wsX20, q ∈ wsX4_leftBehind := fun q h => List.mem_cons_of_mem _ (List.mem_append_right _ (h))
  have hl : lv_has ls 5 [(0, .ref (A 0 3 o)), (1, .int p0), (2, .int p1), (3, .int p2), (4, .int p3)] := hl
  refine lv_iload_n hx hb dX4_leftBehind_0 rfl (lv_at hl 2 rfl) ?_
  refine lv_iload_n hx hb dX4_leftBehind_1 rfl (lv_at hl 3 rfl) ?_
  refine lv_icmp_le (tgt := 9) hx hb dX4_leftBehind_2 (by decide) (fun q1 => ?_) (fun q1 => ?_)
  · rw [if_pos q1] at hf
    refine lv_aload_n hx hb dX4_leftBehind_9 rfl (lv_at hl 0 rfl) ?_
    refine gf_X4_marks hx hb hts hown hW (kS_in ho) iX4 (List.mem_of_getElem? (i := 1) rfl) dX4_leftBehind_10 ?_
    refine gf_X2_kinds hx hb hts hown hW (kS_in (Nat.lt_of_lt_of_le ho (by decide))) iX2 (List.mem_of_getElem? (i := 2) rfl) dX4_leftBehind_13 ?_
    refine lv_iload_n hx hb dX4_leftBehind_16 rfl (lv_at hl 1 rfl) ?_
    obtain ⟨g2, hf⟩ := ss_if hf
    refine ra_i hx hb hW (kS_in (Nat.lt_of_lt_of_le ho (by decide))) g2 dX4_leftBehind_17 ?_
    refine lv_iload_n hx hb dX4_leftBehind_18 rfl (lv_at hl 3 rfl) ?_
    refine lv_iload_n hx hb dX4_leftBehind_19 rfl (lv_at hl 2 rfl) ?_
    refine lv_isub hx hb dX4_leftBehind_20 ?_
    refine lv_iload hx hb dX4_leftBehind_21 (lv_at hl 4 rfl) ?_
    obtain ⟨r3, σ3, hf3, hf⟩ := ss_bd_some hf
    refine rt_i S (c_X1_breathBehind l hAD  hf3) (va_cwS 3 hts gX4_leftBehind_X1_breathBehind rfl rfl rfl hd_X1_breathBehind ⟨(Nat.le_of_ble_eq_true rfl), (Nat.le_of_ble_eq_true rfl)⟩) hW rfl rfl hl.1 (Nat.le_of_ble_eq_true rfl) ⟨Nat.zero_le _, Nat.zero_le _⟩ dX4_leftBehind_23 (fun H locs hW => ?_)
    exact re_i hx hb hr hlocks hW (Option.some.inj hf) dX4_leftBehind_26
  · rw [if_neg q1] at hf
    refine lv_iconst (v := (-1 : Int32)) hx hb dX4_leftBehind_5 (by decide) ?_
    refine lv_goto (tgt := 26) hx hb dX4_leftBehind_6 (by decide) ?_
    exact re_i hx hb hr hlocks hW (Option.some.inj hf) dX4_leftBehind_26
def f_X4_begin (o : Nat) (p0 : Int32) (p1 : Int32) (σ : ss_M) : Option ss_M :=
  some (sGu (sGu (sGu (sGu (sGu (sGu (sGu σ 3 o p0) 4 o p1) 0 o (0 : Int32)) 1 o (0 : Int32)) 5 o (0 : Int32)) 6 o (0 : Int32)) 7 o (0 : Int32))
def rm_X4_begin : Room := { frames := 0, cells := 0, slots := 0, locals := 0 }
theorem hd_X4_begin : yX4_begin.cls = RX4 ∧ yX4_begin.cls ≠ "java/lang/invoke/MethodHandle" ∧ yX4_begin.cls ≠ "java/lang/invoke/VarHandle" ∧ (parseMethodDescriptor yX4_begin.desc).map (fun d => d.parameters.length) = some 2 := by decide +kernel
set_option maxHeartbeats 4000000 in
set_option maxRecDepth 100000 in
theorem c_X4_begin (l : Launch) {D : va_G} {Y : Nat → ClassId} {A : ss_A} (hAD : AD 0 A) {o : Nat} {p0 : Int32} {p1 : Int32} (ho : o < 4) {σ σ' : ss_M} (hf : f_X4_begin o p0 p1 σ = some σ') : Met l yX4_begin wsX4_begin rm_X4_begin (Pc0 0 D Y A σ [.ref (A 0 3 o), .int p0, .int p1]) (Qv0 0 D Y A σ') 0 0 (FA 0 A) := by
  rw [f_X4_begin] at hf
  refine Met0 (cc := cX4_begin) (maxL := 3) (ret := none) (own := RX4) (by decide +kernel) rfl hAD rfl (Nat.le_of_ble_eq_true rfl) ?_
  intro p e s m args below meth c S hr hlocks hW ls hl
  obtain ⟨hx, hb, hml, hown, hts⟩ := id S
  have iX4 : ∀ q ∈ wsX40, q ∈ wsX4_begin := fun q h => List.mem_cons_of_mem _ (List.mem_append_left _ (List.mem_append_right _ (h)))
  have iX2 : ∀ q ∈ wsX20, q ∈ wsX4_begin := fun q h => List.mem_cons_of_mem _ (List.mem_append_right _ (h))
  have hl : lv_has ls 3 [(0, .ref (A 0 3 o)), (1, .int p0), (2, .int p1)] := hl
  refine lv_aload_n hx hb dX4_begin_0 rfl (lv_at hl 0 rfl) ?_
  refine lv_iload_n hx hb dX4_begin_1 rfl (lv_at hl 1 rfl) ?_
  refine pf_X4_breath hx hb hts hown hW (kS_in ho) iX4 (List.mem_of_getElem? (i := 1) rfl) dX4_begin_2 (fun H locs hW => ?_)
  refine lv_aload_n hx hb dX4_begin_5 rfl (lv_at hl 0 rfl) ?_
  refine lv_iload_n hx hb dX4_begin_6 rfl (lv_at hl 2 rfl) ?_
  refine pf_X4_price hx hb hts hown hW (kS_in ho) iX4 (List.mem_of_getElem? (i := 2) rfl) dX4_begin_7 (fun H locs hW => ?_)
  refine lv_aload_n hx hb dX4_begin_10 rfl (lv_at hl 0 rfl) ?_
  refine gf_X4_marks hx hb hts hown hW (kS_in ho) iX4 (List.mem_of_getElem? (i := 3) rfl) dX4_begin_11 ?_
  refine lv_iconst (v := (0 : Int32)) hx hb dX4_begin_14 (by decide) ?_
  refine pf_X2_purse hx hb hts hown hW (kS_in (Nat.lt_of_lt_of_le ho (by decide))) iX2 (List.mem_of_getElem? (i := 4) rfl) dX4_begin_15 (fun H locs hW => ?_)
  refine lv_aload_n hx hb dX4_begin_18 rfl (lv_at hl 0 rfl) ?_
  refine gf_X4_marks hx hb hts hown hW (kS_in ho) iX4 (List.mem_of_getElem? (i := 3) rfl) dX4_begin_19 ?_
  refine lv_iconst (v := (0 : Int32)) hx hb dX4_begin_22 (by decide) ?_
  refine pf_X2_week hx hb hts hown hW (kS_in (Nat.lt_of_lt_of_le ho (by decide))) iX2 (List.mem_of_getElem? (i := 5) rfl) dX4_begin_23 (fun H locs hW => ?_)
  refine lv_aload_n hx hb dX4_begin_26 rfl (lv_at hl 0 rfl) ?_
  refine lv_iconst (v := (0 : Int32)) hx hb dX4_begin_27 (by decide) ?_
  refine pf_X4_words hx hb hts hown hW (kS_in ho) iX4 (List.mem_of_getElem? (i := 6) rfl) dX4_begin_28 (fun H locs hW => ?_)
  refine lv_aload_n hx hb dX4_begin_31 rfl (lv_at hl 0 rfl) ?_
  refine lv_iconst (v := (0 : Int32)) hx hb dX4_begin_32 (by decide) ?_
  refine pf_X4_heards hx hb hts hown hW (kS_in ho) iX4 (List.mem_of_getElem? (i := 7) rfl) dX4_begin_33 (fun H locs hW => ?_)
  refine lv_aload_n hx hb dX4_begin_36 rfl (lv_at hl 0 rfl) ?_
  refine lv_iconst (v := (0 : Int32)) hx hb dX4_begin_37 (by decide) ?_
  refine pf_X4_pasts hx hb hts hown hW (kS_in ho) iX4 (List.mem_of_getElem? (i := 8) rfl) dX4_begin_38 (fun H locs hW => ?_)
  exact re_v hx hb hr hlocks hW (Option.some.inj hf) dX4_begin_41
def f_X4_copy_L83 (o : Nat) (o0 : Nat) : Nat → Int32 → ss_M → Option ss_M
  | 0, _, _ => none
  | n83 + 1, x83_2, σ83_ => if (8 : Int32) ≤ x83_2 then (some σ83_) else (if gd x83_2 8 = true then (if sR σ83_ o (x83_2).toNatClampNeg < 36 then (if gd x83_2 8 = true then (if sR σ83_ o0 (x83_2).toNatClampNeg < 36 then (Option.bind (f_X2_copy (sR σ83_ o (x83_2).toNatClampNeg) (sR σ83_ o0 (x83_2).toNatClampNeg) σ83_) (fun σ11 => (f_X4_copy_L83 o o0 n83) (x83_2 + (1 : Int32)) σ11)) else none) else none) else none) else none)
def f_X4_copy (o : Nat) (o0 : Nat) (σ : ss_M) : Option ss_M :=
  ss_let (sGu (sGu (sGu σ 3 o (sG σ 3 o0)) 4 o (sG (sGu σ 3 o (sG σ 3 o0)) 4 o0)) 5 o (sG (sGu (sGu σ 3 o (sG σ 3 o0)) 4 o (sG (sGu σ 3 o (sG σ 3 o0)) 4 o0)) 5 o0)) (fun σm1 => if gdc (0 : Int32) (0 : Int32) (12 : Int32) 12 12 = true then (ss_let (sAu (sGu (sGu σm1 6 o (sG σm1 6 o0)) 7 o (sG (sGu σm1 6 o (sG σm1 6 o0)) 7 o0)) 4 o (va_cpy (sA (sGu (sGu σm1 6 o (sG σm1 6 o0)) 7 o (sG (sGu σm1 6 o (sG σm1 6 o0)) 7 o0)) 4 o0) (sA (sGu (sGu σm1 6 o (sG σm1 6 o0)) 7 o (sG (sGu σm1 6 o (sG σm1 6 o0)) 7 o0)) 4 o) ((0 : Int32)).toNatClampNeg ((0 : Int32)).toNatClampNeg ((12 : Int32)).toNatClampNeg)) (fun σm3 => if gdc (0 : Int32) (0 : Int32) (6 : Int32) 6 6 = true then (Option.bind (f_X2_copy o o0 (sAu σm3 5 o (va_cpy (sA σm3 5 o0) (sA σm3 5 o) ((0 : Int32)).toNatClampNeg ((0 : Int32)).toNatClampNeg ((6 : Int32)).toNatClampNeg))) (fun σ5 => f_X4_copy_L83 o o0 FU (0 : Int32) σ5)) else none)) else none)
def rm_X4_copy : Room := { frames := 4, cells := 0, slots := 0, locals := 200 }
theorem hd_X4_copy : yX4_copy.cls = RX4 ∧ yX4_copy.cls ≠ "java/lang/invoke/MethodHandle" ∧ yX4_copy.cls ≠ "java/lang/invoke/VarHandle" ∧ (parseMethodDescriptor yX4_copy.desc).map (fun d => d.parameters.length) = some 1 := by decide +kernel
set_option maxHeartbeats 4000000 in
set_option maxRecDepth 100000 in
theorem c_X4_copy (l : Launch) {D : va_G} {Y : Nat → ClassId} {A : ss_A} (hAD : AD 0 A) {o : Nat} {o0 : Nat} (ho : o < 4) (ho0 : o0 < 4) {σ σ' : ss_M} (hf : f_X4_copy o o0 σ = some σ') : Met l yX4_copy wsX4_copy rm_X4_copy (Pc0 0 D Y A σ [.ref (A 0 3 o), .ref (A 0 3 o0)]) (Qv0 0 D Y A σ') 0 0 (FA 0 A) := by
  rw [f_X4_copy] at hf
  refine Met0 (cc := cX4_copy) (maxL := 3) (ret := none) (own := RX4) (by decide +kernel) rfl hAD rfl (Nat.le_of_ble_eq_true rfl) ?_
  intro p e s m args below meth c S hr hlocks hW ls hl
  obtain ⟨hx, hb, hml, hown, hts⟩ := id S
  have iX4 : ∀ q ∈ wsX40, q ∈ wsX4_copy := fun q h => List.mem_cons_of_mem _ (List.mem_append_left _ (List.mem_append_right _ (h)))
  have hl : lv_has ls 3 [(0, .ref (A 0 3 o)), (1, .ref (A 0 3 o0))] := hl
  refine lv_aload_n hx hb dX4_copy_0 rfl (lv_at hl 0 rfl) ?_
  refine lv_aload_n hx hb dX4_copy_1 rfl (lv_at hl 1 rfl) ?_
  refine gf_X4_breath hx hb hts hown hW (kS_in ho0) iX4 (List.mem_of_getElem? (i := 1) rfl) dX4_copy_2 ?_
  refine pf_X4_breath hx hb hts hown hW (kS_in ho) iX4 (List.mem_of_getElem? (i := 1) rfl) dX4_copy_5 (fun H locs hW => ?_)
  refine lv_aload_n hx hb dX4_copy_8 rfl (lv_at hl 0 rfl) ?_
  refine lv_aload_n hx hb dX4_copy_9 rfl (lv_at hl 1 rfl) ?_
  refine gf_X4_price hx hb hts hown hW (kS_in ho0) iX4 (List.mem_of_getElem? (i := 2) rfl) dX4_copy_10 ?_
  refine pf_X4_price hx hb hts hown hW (kS_in ho) iX4 (List.mem_of_getElem? (i := 2) rfl) dX4_copy_13 (fun H locs hW => ?_)
  refine lv_aload_n hx hb dX4_copy_16 rfl (lv_at hl 0 rfl) ?_
  refine lv_aload_n hx hb dX4_copy_17 rfl (lv_at hl 1 rfl) ?_
  refine gf_X4_words hx hb hts hown hW (kS_in ho0) iX4 (List.mem_of_getElem? (i := 3) rfl) dX4_copy_18 ?_
  refine pf_X4_words hx hb hts hown hW (kS_in ho) iX4 (List.mem_of_getElem? (i := 3) rfl) dX4_copy_21 (fun H locs hW => ?_)
  obtain ⟨σm1, eσm1, hf⟩ := ss_let_some hf
  rw [← eσm1] at hW
  refine lv_aload_n hx hb dX4_copy_24 rfl (lv_at hl 0 rfl) ?_
  refine lv_aload_n hx hb dX4_copy_25 rfl (lv_at hl 1 rfl) ?_
  refine gf_X4_heards hx hb hts hown hW (kS_in ho0) iX4 (List.mem_of_getElem? (i := 4) rfl) dX4_copy_26 ?_
  refine pf_X4_heards hx hb hts hown hW (kS_in ho) iX4 (List.mem_of_getElem? (i := 4) rfl) dX4_copy_29 (fun H locs hW => ?_)
  refine lv_aload_n hx hb dX4_copy_32 rfl (lv_at hl 0 rfl) ?_
  refine lv_aload_n hx hb dX4_copy_33 rfl (lv_at hl 1 rfl) ?_
  refine gf_X4_pasts hx hb hts hown hW (kS_in ho0) iX4 (List.mem_of_getElem? (i := 5) rfl) dX4_copy_34 ?_
  refine pf_X4_pasts hx hb hts hown hW (kS_in ho) iX4 (List.mem_of_getElem? (i := 5) rfl) dX4_copy_37 (fun H locs hW => ?_)
  refine lv_aload_n hx hb dX4_copy_40 rfl (lv_at hl 1 rfl) ?_
  refine gf_X4_lengths hx hb hts hown hW (kS_in ho0) iX4 (List.mem_of_getElem? (i := 6) rfl) dX4_copy_41 ?_
  refine lv_iconst (v := (0 : Int32)) hx hb dX4_copy_44 (by decide) ?_
  refine lv_aload_n hx hb dX4_copy_45 rfl (lv_at hl 0 rfl) ?_
  refine gf_X4_lengths hx hb hts hown hW (kS_in ho) iX4 (List.mem_of_getElem? (i := 6) rfl) dX4_copy_46 ?_
  refine lv_iconst (v := (0 : Int32)) hx hb dX4_copy_49 (by decide) ?_
  refine lv_bipush (v := (12 : Int32)) hx hb dX4_copy_50 (by decide) ?_
  obtain ⟨g2, hf⟩ := ss_if hf
  refine rcp hx hb hts hown (hml.trans hl.1.symm) (List.mem_of_getElem? (i := 7) rfl) (List.mem_of_getElem? (i := 8) rfl) (List.mem_of_getElem? (i := 9) rfl) (List.mem_of_getElem? (i := 10) rfl) hW (kS_in ho0) (kS_in ho) g2 (Nat.le_of_ble_eq_true rfl) (Nat.le_of_ble_eq_true rfl) dX4_copy_52 (fun H locs hW => ?_)
  obtain ⟨σm3, eσm3, hf⟩ := ss_let_some hf
  rw [← eσm3] at hW
  refine lv_aload_n hx hb dX4_copy_55 rfl (lv_at hl 1 rfl) ?_
  refine gf_X4_heard hx hb hts hown hW (kS_in ho0) iX4 (List.mem_of_getElem? (i := 11) rfl) dX4_copy_56 ?_
  refine lv_iconst (v := (0 : Int32)) hx hb dX4_copy_59 (by decide) ?_
  refine lv_aload_n hx hb dX4_copy_60 rfl (lv_at hl 0 rfl) ?_
  refine gf_X4_heard hx hb hts hown hW (kS_in ho) iX4 (List.mem_of_getElem? (i := 11) rfl) dX4_copy_61 ?_
  refine lv_iconst (v := (0 : Int32)) hx hb dX4_copy_64 (by decide) ?_
  refine lv_bipush (v := (6 : Int32)) hx hb dX4_copy_65 (by decide) ?_
  obtain ⟨g4, hf⟩ := ss_if hf
  refine rcp hx hb hts hown (hml.trans hl.1.symm) (List.mem_of_getElem? (i := 7) rfl) (List.mem_of_getElem? (i := 8) rfl) (List.mem_of_getElem? (i := 9) rfl) (List.mem_of_getElem? (i := 10) rfl) hW (kS_in ho0) (kS_in ho) g4 (Nat.le_of_ble_eq_true rfl) (Nat.le_of_ble_eq_true rfl) dX4_copy_67 (fun H locs hW => ?_)
  refine lv_aload_n hx hb dX4_copy_70 rfl (lv_at hl 0 rfl) ?_
  refine gf_X4_marks hx hb hts hown hW (kS_in ho) iX4 (List.mem_of_getElem? (i := 12) rfl) dX4_copy_71 ?_
  refine lv_aload_n hx hb dX4_copy_74 rfl (lv_at hl 1 rfl) ?_
  refine gf_X4_marks hx hb hts hown hW (kS_in ho0) iX4 (List.mem_of_getElem? (i := 12) rfl) dX4_copy_75 ?_
  obtain ⟨σ5, hf5, hf⟩ := ss_bind hf
  refine rv_v S (c_X2_copy l hAD (Nat.lt_of_lt_of_le ho (by decide)) (Nat.lt_of_lt_of_le ho0 (by decide)) hf5) (cwV 1 hts gX4_copy_X2_copy rfl rfl rfl hd_X2_copy ⟨(Nat.le_of_ble_eq_true rfl), (Nat.le_of_ble_eq_true rfl)⟩) hW (kS_in (Nat.lt_of_lt_of_le ho (by decide))) rfl rfl rfl hl.1 (Nat.le_of_ble_eq_true rfl) ⟨Nat.zero_le _, Nat.zero_le _⟩ dX4_copy_78 (fun H locs hW => ?_)
  refine lv_iconst (v := (0 : Int32)) hx hb dX4_copy_81 (by decide) ?_
  refine lv_istore_n (lv' := [(2, .int (0 : Int32)), (0, .ref (A 0 3 o)), (1, .ref (A 0 3 o0))]) hx hb dX4_copy_82 rfl hl (by decide) rfl (fun ls hl => ?_)
  have L83 : ∀ (n83 : Nat), ∀ (x83_2 : Int32) (σ83_ : ss_M) (H : Heap) (locs : List Loc) (ls : Array Slot), sW 0 D Y A σ83_ s s.heap H locs → lv_has ls 3 [(0, .ref (A 0 3 o)), (1, .ref (A 0 3 o0)), (2, .int x83_2)] → f_X4_copy_L83 o o0 n83 x83_2 σ83_ = some σ' → W p l e rm_X4_copy s m args below meth c H locs 0 0 (MQ below (Qv0 0 D Y A σ') args s 0 0 (FA 0 A)) (F0 m 83 ls []) := by
    intro n83
    induction n83 with
    | zero =>
      intro x83_2 σ83_ H locs ls hW hl hf
      rw [f_X4_copy_L83] at hf
      cases hf
    | succ n83 ih83 =>
      intro x83_2 σ83_ H locs ls hW hl hf
      rw [f_X4_copy_L83] at hf
      refine lv_iload_n hx hb dX4_copy_83 rfl (lv_at hl 2 rfl) ?_
      refine lv_bipush (v := (8 : Int32)) hx hb dX4_copy_84 (by decide) ?_
      refine lv_icmp_ge (tgt := 110) hx hb dX4_copy_86 (by decide) (fun q6 => ?_) (fun q6 => ?_)
      · rw [if_pos q6] at hf
        exact re_v hx hb hr hlocks hW (Option.some.inj hf) dX4_copy_110
      · rw [if_neg q6] at hf
        refine lv_aload_n hx hb dX4_copy_89 rfl (lv_at hl 0 rfl) ?_
        refine gf_X4_past hx hb hts hown hW (kS_in ho) iX4 (List.mem_of_getElem? (i := 13) rfl) dX4_copy_90 ?_
        refine lv_iload_n hx hb dX4_copy_93 rfl (lv_at hl 2 rfl) ?_
        obtain ⟨g7, hf⟩ := ss_if hf
        obtain ⟨g8, hf⟩ := ss_if hf
        refine ra_q hx hb hW (kS_in ho) g7 dX4_copy_94 ?_
        refine lv_aload_n hx hb dX4_copy_95 rfl (lv_at hl 1 rfl) ?_
        refine gf_X4_past hx hb hts hown hW (kS_in ho0) iX4 (List.mem_of_getElem? (i := 13) rfl) dX4_copy_96 ?_
        refine lv_iload_n hx hb dX4_copy_99 rfl (lv_at hl 2 rfl) ?_
        obtain ⟨g9, hf⟩ := ss_if hf
        obtain ⟨g10, hf⟩ := ss_if hf
        refine ra_q hx hb hW (kS_in ho0) g9 dX4_copy_100 ?_
        obtain ⟨σ11, hf11, hf⟩ := ss_bind hf
        refine rv_v S (c_X2_copy l hAD g8 g10 hf11) (cwV 1 hts gX4_copy_X2_copy rfl rfl rfl hd_X2_copy ⟨(Nat.le_of_ble_eq_true rfl), (Nat.le_of_ble_eq_true rfl)⟩) hW (kS_in g8) rfl rfl rfl hl.1 (Nat.le_of_ble_eq_true rfl) ⟨Nat.zero_le _, Nat.zero_le _⟩ dX4_copy_101 (fun H locs hW => ?_)
        refine lv_iinc (v := (x83_2 + (1 : Int32))) (lv' := [(2, .int (x83_2 + (1 : Int32))), (0, .ref (A 0 3 o)), (1, .ref (A 0 3 o0))]) hx hb dX4_copy_104 hl (k := 2) rfl rfl (by decide) rfl (fun ls hl => ?_)
        refine lv_goto (tgt := 83) hx hb dX4_copy_107 (by decide) ?_
        exact ih83 (x83_2 + (1 : Int32)) σ11 _ _ _ hW (lv_sub hl [1, 2, 0] rfl) hf
  exact L83 FU (0 : Int32) σ5 _ _ _ hW (lv_sub hl [1, 2, 0] rfl) hf
def f_X4_has (o : Nat) (p0 : Int32) (σ : ss_M) : Option (Int32 × ss_M) :=
  if p0 < (0 : Int32) then (some ((0 : Int32), σ)) else (if (sG σ 5 o) ≤ p0 then (some ((0 : Int32), σ)) else (some ((1 : Int32), σ)))
def rm_X4_has : Room := { frames := 0, cells := 0, slots := 0, locals := 0 }
theorem hd_X4_has : yX4_has.cls = RX4 ∧ yX4_has.cls ≠ "java/lang/invoke/MethodHandle" ∧ yX4_has.cls ≠ "java/lang/invoke/VarHandle" ∧ (parseMethodDescriptor yX4_has.desc).map (fun d => d.parameters.length) = some 1 := by decide +kernel
set_option maxHeartbeats 4000000 in
set_option maxRecDepth 100000 in
theorem c_X4_has (l : Launch) {D : va_G} {Y : Nat → ClassId} {A : ss_A} (hAD : AD 0 A) {o : Nat} {p0 : Int32} (ho : o < 4) {r : Int32} {σ σ' : ss_M} (hf : f_X4_has o p0 σ = some (r, σ')) : Met l yX4_has wsX4_has rm_X4_has (Pc0 0 D Y A σ [.ref (A 0 3 o), .int p0]) (Qi0 0 D Y A r σ') 0 0 (FA 0 A) := by
  rw [f_X4_has] at hf
  refine Met0 (cc := cX4_has) (maxL := 2) (ret := (some .boolean)) (own := RX4) (by decide +kernel) rfl hAD rfl (Nat.le_of_ble_eq_true rfl) ?_
  intro p e s m args below meth c S hr hlocks hW ls hl
  obtain ⟨hx, hb, hml, hown, hts⟩ := id S
  have iX4 : ∀ q ∈ wsX40, q ∈ wsX4_has := fun q h => List.mem_cons_of_mem _ (List.mem_append_right _ (h))
  have hl : lv_has ls 2 [(0, .ref (A 0 3 o)), (1, .int p0)] := hl
  refine lv_iload_n hx hb dX4_has_0 rfl (lv_at hl 1 rfl) ?_
  refine lv_if_lt (tgt := 16) hx hb dX4_has_1 (by decide) (fun q1 => ?_) (fun q1 => ?_)
  · rw [if_pos q1] at hf
    refine lv_iconst (v := (0 : Int32)) hx hb dX4_has_16 (by decide) ?_
    exact re_z hx hb hr hlocks hW (by decide) (Option.some.inj hf) dX4_has_17
  · rw [if_neg q1] at hf
    refine lv_iload_n hx hb dX4_has_4 rfl (lv_at hl 1 rfl) ?_
    refine lv_aload_n hx hb dX4_has_5 rfl (lv_at hl 0 rfl) ?_
    refine gf_X4_words hx hb hts hown hW (kS_in ho) iX4 (List.mem_of_getElem? (i := 1) rfl) dX4_has_6 ?_
    refine lv_icmp_ge (tgt := 16) hx hb dX4_has_9 (by decide) (fun q2 => ?_) (fun q2 => ?_)
    · rw [if_pos q2] at hf
      refine lv_iconst (v := (0 : Int32)) hx hb dX4_has_16 (by decide) ?_
      exact re_z hx hb hr hlocks hW (by decide) (Option.some.inj hf) dX4_has_17
    · rw [if_neg q2] at hf
      refine lv_iconst (v := (1 : Int32)) hx hb dX4_has_12 (by decide) ?_
      refine lv_goto (tgt := 17) hx hb dX4_has_13 (by decide) ?_
      exact re_z hx hb hr hlocks hW (by decide) (Option.some.inj hf) dX4_has_17
def f_X4_hasRoom (o : Nat) (σ : ss_M) : Option (Int32 × ss_M) :=
  if (12 : Int32) ≤ (sG σ 5 o) then (some ((0 : Int32), σ)) else (some ((1 : Int32), σ))
def rm_X4_hasRoom : Room := { frames := 0, cells := 0, slots := 0, locals := 0 }
theorem hd_X4_hasRoom : yX4_hasRoom.cls = RX4 ∧ yX4_hasRoom.cls ≠ "java/lang/invoke/MethodHandle" ∧ yX4_hasRoom.cls ≠ "java/lang/invoke/VarHandle" ∧ (parseMethodDescriptor yX4_hasRoom.desc).map (fun d => d.parameters.length) = some 0 := by decide +kernel
set_option maxHeartbeats 4000000 in
set_option maxRecDepth 100000 in
theorem c_X4_hasRoom (l : Launch) {D : va_G} {Y : Nat → ClassId} {A : ss_A} (hAD : AD 0 A) {o : Nat} (ho : o < 4) {r : Int32} {σ σ' : ss_M} (hf : f_X4_hasRoom o σ = some (r, σ')) : Met l yX4_hasRoom wsX4_hasRoom rm_X4_hasRoom (Pc0 0 D Y A σ [.ref (A 0 3 o)]) (Qi0 0 D Y A r σ') 0 0 (FA 0 A) := by
  rw [f_X4_hasRoom] at hf
  refine Met0 (cc := cX4_hasRoom) (maxL := 1) (ret := (some .boolean)) (own := RX4) (by decide +kernel) rfl hAD rfl (Nat.le_of_ble_eq_true rfl) ?_
  intro p e s m args below meth c S hr hlocks hW ls hl
  obtain ⟨hx, hb, hml, hown, hts⟩ := id S
  have iX4 : ∀ q ∈ wsX40, q ∈ wsX4_hasRoom := fun q h => List.mem_cons_of_mem _ (List.mem_append_right _ (h))
  have hl : lv_has ls 1 [(0, .ref (A 0 3 o))] := hl
  refine lv_aload_n hx hb dX4_hasRoom_0 rfl (lv_at hl 0 rfl) ?_
  refine gf_X4_words hx hb hts hown hW (kS_in ho) iX4 (List.mem_of_getElem? (i := 1) rfl) dX4_hasRoom_1 ?_
  refine lv_bipush (v := (12 : Int32)) hx hb dX4_hasRoom_4 (by decide) ?_
  refine lv_icmp_ge (tgt := 13) hx hb dX4_hasRoom_6 (by decide) (fun q1 => ?_) (fun q1 => ?_)
  · rw [if_pos q1] at hf
    refine lv_iconst (v := (0 : Int32)) hx hb dX4_hasRoom_13 (by decide) ?_
    exact re_z hx hb hr hlocks hW (by decide) (Option.some.inj hf) dX4_hasRoom_14
  · rw [if_neg q1] at hf
    refine lv_iconst (v := (1 : Int32)) hx hb dX4_hasRoom_9 (by decide) ?_
    refine lv_goto (tgt := 14) hx hb dX4_hasRoom_10 (by decide) ?_
    exact re_z hx hb hr hlocks hW (by decide) (Option.some.inj hf) dX4_hasRoom_14
def f_X4_addWord (o : Nat) (p0 : Int32) (σ : ss_M) : Option ss_M :=
  if gd (sG σ 5 o) 12 = true then (Option.bind (f_X2_set o (sG (sAu σ 4 o (upd (sA σ 4 o) ((sG σ 5 o)).toNatClampNeg p0)) 5 o) (-1 : Int32) (sAu σ 4 o (upd (sA σ 4 o) ((sG σ 5 o)).toNatClampNeg p0))) (fun σ2 => some (sGu (sGu σ2 5 o ((sG σ2 5 o) + (1 : Int32))) 7 o (0 : Int32)))) else none
def rm_X4_addWord : Room := { frames := 2, cells := 0, slots := 0, locals := 100 }
theorem hd_X4_addWord : yX4_addWord.cls = RX4 ∧ yX4_addWord.cls ≠ "java/lang/invoke/MethodHandle" ∧ yX4_addWord.cls ≠ "java/lang/invoke/VarHandle" ∧ (parseMethodDescriptor yX4_addWord.desc).map (fun d => d.parameters.length) = some 1 := by decide +kernel
set_option maxHeartbeats 4000000 in
set_option maxRecDepth 100000 in
theorem c_X4_addWord (l : Launch) {D : va_G} {Y : Nat → ClassId} {A : ss_A} (hAD : AD 0 A) {o : Nat} {p0 : Int32} (ho : o < 4) {σ σ' : ss_M} (hf : f_X4_addWord o p0 σ = some σ') : Met l yX4_addWord wsX4_addWord rm_X4_addWord (Pc0 0 D Y A σ [.ref (A 0 3 o), .int p0]) (Qv0 0 D Y A σ') 0 0 (FA 0 A) := by
  rw [f_X4_addWord] at hf
  refine Met0 (cc := cX4_addWord) (maxL := 2) (ret := none) (own := RX4) (by decide +kernel) rfl hAD rfl (Nat.le_of_ble_eq_true rfl) ?_
  intro p e s m args below meth c S hr hlocks hW ls hl
  obtain ⟨hx, hb, hml, hown, hts⟩ := id S
  have iX4 : ∀ q ∈ wsX40, q ∈ wsX4_addWord := fun q h => List.mem_cons_of_mem _ (List.mem_append_left _ (List.mem_append_right _ (h)))
  have hl : lv_has ls 2 [(0, .ref (A 0 3 o)), (1, .int p0)] := hl
  refine lv_aload_n hx hb dX4_addWord_0 rfl (lv_at hl 0 rfl) ?_
  refine gf_X4_lengths hx hb hts hown hW (kS_in ho) iX4 (List.mem_of_getElem? (i := 1) rfl) dX4_addWord_1 ?_
  refine lv_aload_n hx hb dX4_addWord_4 rfl (lv_at hl 0 rfl) ?_
  refine gf_X4_words hx hb hts hown hW (kS_in ho) iX4 (List.mem_of_getElem? (i := 2) rfl) dX4_addWord_5 ?_
  refine lv_iload_n hx hb dX4_addWord_8 rfl (lv_at hl 1 rfl) ?_
  obtain ⟨g1, hf⟩ := ss_if hf
  refine rs_i hx hb hW (kS_in ho) g1 dX4_addWord_9 (fun H locs hW => ?_)
  refine lv_aload_n hx hb dX4_addWord_10 rfl (lv_at hl 0 rfl) ?_
  refine gf_X4_marks hx hb hts hown hW (kS_in ho) iX4 (List.mem_of_getElem? (i := 3) rfl) dX4_addWord_11 ?_
  refine lv_aload_n hx hb dX4_addWord_14 rfl (lv_at hl 0 rfl) ?_
  refine gf_X4_words hx hb hts hown hW (kS_in ho) iX4 (List.mem_of_getElem? (i := 2) rfl) dX4_addWord_15 ?_
  refine lv_iconst (v := (-1 : Int32)) hx hb dX4_addWord_18 (by decide) ?_
  obtain ⟨σ2, hf2, hf⟩ := ss_bind hf
  refine rv_v S (c_X2_set l hAD (Nat.lt_of_lt_of_le ho (by decide)) hf2) (cwV 2 hts gX4_addWord_X2_set rfl rfl rfl hd_X2_set ⟨(Nat.le_of_ble_eq_true rfl), (Nat.le_of_ble_eq_true rfl)⟩) hW (kS_in (Nat.lt_of_lt_of_le ho (by decide))) rfl rfl rfl hl.1 (Nat.le_of_ble_eq_true rfl) ⟨Nat.zero_le _, Nat.zero_le _⟩ dX4_addWord_19 (fun H locs hW => ?_)
  refine lv_aload_n hx hb dX4_addWord_22 rfl (lv_at hl 0 rfl) ?_
  refine lv_dup hx hb dX4_addWord_23 rfl ?_
  refine gf_X4_words hx hb hts hown hW (kS_in ho) iX4 (List.mem_of_getElem? (i := 2) rfl) dX4_addWord_24 ?_
  refine lv_iconst (v := (1 : Int32)) hx hb dX4_addWord_27 (by decide) ?_
  refine lv_iadd hx hb dX4_addWord_28 ?_
  refine pf_X4_words hx hb hts hown hW (kS_in ho) iX4 (List.mem_of_getElem? (i := 2) rfl) dX4_addWord_29 (fun H locs hW => ?_)
  refine lv_aload_n hx hb dX4_addWord_32 rfl (lv_at hl 0 rfl) ?_
  refine lv_iconst (v := (0 : Int32)) hx hb dX4_addWord_33 (by decide) ?_
  refine pf_X4_pasts hx hb hts hown hW (kS_in ho) iX4 (List.mem_of_getElem? (i := 4) rfl) dX4_addWord_34 (fun H locs hW => ?_)
  exact re_v hx hb hr hlocks hW (Option.some.inj hf) dX4_addWord_37
def f_X4_setMark (o : Nat) (p0 : Int32) (p1 : Int32) (σ : ss_M) : Option ss_M :=
  Option.bind (f_X2_set o p0 p1 σ) (fun σ1 => some (sGu σ1 7 o (0 : Int32)))
def rm_X4_setMark : Room := { frames := 2, cells := 0, slots := 0, locals := 100 }
theorem hd_X4_setMark : yX4_setMark.cls = RX4 ∧ yX4_setMark.cls ≠ "java/lang/invoke/MethodHandle" ∧ yX4_setMark.cls ≠ "java/lang/invoke/VarHandle" ∧ (parseMethodDescriptor yX4_setMark.desc).map (fun d => d.parameters.length) = some 2 := by decide +kernel
set_option maxHeartbeats 4000000 in
set_option maxRecDepth 100000 in
theorem c_X4_setMark (l : Launch) {D : va_G} {Y : Nat → ClassId} {A : ss_A} (hAD : AD 0 A) {o : Nat} {p0 : Int32} {p1 : Int32} (ho : o < 4) {σ σ' : ss_M} (hf : f_X4_setMark o p0 p1 σ = some σ') : Met l yX4_setMark wsX4_setMark rm_X4_setMark (Pc0 0 D Y A σ [.ref (A 0 3 o), .int p0, .int p1]) (Qv0 0 D Y A σ') 0 0 (FA 0 A) := by
  rw [f_X4_setMark] at hf
  refine Met0 (cc := cX4_setMark) (maxL := 3) (ret := none) (own := RX4) (by decide +kernel) rfl hAD rfl (Nat.le_of_ble_eq_true rfl) ?_
  intro p e s m args below meth c S hr hlocks hW ls hl
  obtain ⟨hx, hb, hml, hown, hts⟩ := id S
  have iX4 : ∀ q ∈ wsX40, q ∈ wsX4_setMark := fun q h => List.mem_cons_of_mem _ (List.mem_append_left _ (List.mem_append_right _ (h)))
  have hl : lv_has ls 3 [(0, .ref (A 0 3 o)), (1, .int p0), (2, .int p1)] := hl
  refine lv_aload_n hx hb dX4_setMark_0 rfl (lv_at hl 0 rfl) ?_
  refine gf_X4_marks hx hb hts hown hW (kS_in ho) iX4 (List.mem_of_getElem? (i := 1) rfl) dX4_setMark_1 ?_
  refine lv_iload_n hx hb dX4_setMark_4 rfl (lv_at hl 1 rfl) ?_
  refine lv_iload_n hx hb dX4_setMark_5 rfl (lv_at hl 2 rfl) ?_
  obtain ⟨σ1, hf1, hf⟩ := ss_bind hf
  refine rv_v S (c_X2_set l hAD (Nat.lt_of_lt_of_le ho (by decide)) hf1) (cwV 2 hts gX4_setMark_X2_set rfl rfl rfl hd_X2_set ⟨(Nat.le_of_ble_eq_true rfl), (Nat.le_of_ble_eq_true rfl)⟩) hW (kS_in (Nat.lt_of_lt_of_le ho (by decide))) rfl rfl rfl hl.1 (Nat.le_of_ble_eq_true rfl) ⟨Nat.zero_le _, Nat.zero_le _⟩ dX4_setMark_6 (fun H locs hW => ?_)
  refine lv_aload_n hx hb dX4_setMark_9 rfl (lv_at hl 0 rfl) ?_
  refine lv_iconst (v := (0 : Int32)) hx hb dX4_setMark_10 (by decide) ?_
  refine pf_X4_pasts hx hb hts hown hW (kS_in ho) iX4 (List.mem_of_getElem? (i := 2) rfl) dX4_setMark_11 (fun H locs hW => ?_)
  exact re_v hx hb hr hlocks hW (Option.some.inj hf) dX4_setMark_14
def f_X4_costOf (o : Nat) (p0 : Int32) (σ : ss_M) : Option (Int32 × ss_M) :=
  ss_bd (f_X1_cost p0 (sG σ 4 o) (sG σ 1 o) σ) (fun r1 σ1 => some (r1, σ1))
def rm_X4_costOf : Room := { frames := 2, cells := 0, slots := 0, locals := 100 }
theorem hd_X4_costOf : yX4_costOf.cls = RX4 ∧ yX4_costOf.cls ≠ "java/lang/invoke/MethodHandle" ∧ yX4_costOf.cls ≠ "java/lang/invoke/VarHandle" ∧ (parseMethodDescriptor yX4_costOf.desc).map (fun d => d.parameters.length) = some 1 := by decide +kernel
set_option maxHeartbeats 4000000 in
set_option maxRecDepth 100000 in
theorem c_X4_costOf (l : Launch) {D : va_G} {Y : Nat → ClassId} {A : ss_A} (hAD : AD 0 A) {o : Nat} {p0 : Int32} (ho : o < 4) {r : Int32} {σ σ' : ss_M} (hf : f_X4_costOf o p0 σ = some (r, σ')) : Met l yX4_costOf wsX4_costOf rm_X4_costOf (Pc0 0 D Y A σ [.ref (A 0 3 o), .int p0]) (Qi0 0 D Y A r σ') 0 0 (FA 0 A) := by
  rw [f_X4_costOf] at hf
  refine Met0 (cc := cX4_costOf) (maxL := 2) (ret := (some .int)) (own := RX4) (by decide +kernel) rfl hAD rfl (Nat.le_of_ble_eq_true rfl) ?_
  intro p e s m args below meth c S hr hlocks hW ls hl
  obtain ⟨hx, hb, hml, hown, hts⟩ := id S
  have iX4 : ∀ q ∈ wsX40, q ∈ wsX4_costOf := fun q h => List.mem_cons_of_mem _ (List.mem_append_left _ (List.mem_append_right _ (h)))
  have iX2 : ∀ q ∈ wsX20, q ∈ wsX4_costOf := fun q h => List.mem_cons_of_mem _ (List.mem_append_right _ (h))
  have hl : lv_has ls 2 [(0, .ref (A 0 3 o)), (1, .int p0)] := hl
  refine lv_iload_n hx hb dX4_costOf_0 rfl (lv_at hl 1 rfl) ?_
  refine lv_aload_n hx hb dX4_costOf_1 rfl (lv_at hl 0 rfl) ?_
  refine gf_X4_price hx hb hts hown hW (kS_in ho) iX4 (List.mem_of_getElem? (i := 1) rfl) dX4_costOf_2 ?_
  refine lv_aload_n hx hb dX4_costOf_5 rfl (lv_at hl 0 rfl) ?_
  refine gf_X4_marks hx hb hts hown hW (kS_in ho) iX4 (List.mem_of_getElem? (i := 2) rfl) dX4_costOf_6 ?_
  refine gf_X2_week hx hb hts hown hW (kS_in (Nat.lt_of_lt_of_le ho (by decide))) iX2 (List.mem_of_getElem? (i := 3) rfl) dX4_costOf_9 ?_
  obtain ⟨r1, σ1, hf1, hf⟩ := ss_bd_some hf
  refine rt_i S (c_X1_cost l hAD  hf1) (va_cwS 3 hts gX4_costOf_X1_cost rfl rfl rfl hd_X1_cost ⟨(Nat.le_of_ble_eq_true rfl), (Nat.le_of_ble_eq_true rfl)⟩) hW rfl rfl hl.1 (Nat.le_of_ble_eq_true rfl) ⟨Nat.zero_le _, Nat.zero_le _⟩ dX4_costOf_12 (fun H locs hW => ?_)
  exact re_i hx hb hr hlocks hW (Option.some.inj hf) dX4_costOf_15
def f_X4_howManyMarks_j28 (x4_2 : Int32) (kb4 : Int32 → Int32 → ss_M → Option (Int32 × ss_M)) (x28_1 : Int32) (σ28_ : ss_M) : Option (Int32 × ss_M) :=
  kb4 x28_1 (x4_2 + (1 : Int32)) σ28_
def f_X4_howManyMarks_L4 (o : Nat) : Nat → Int32 → Int32 → ss_M → Option (Int32 × ss_M)
  | 0, _, _, _ => none
  | n4 + 1, x4_1, x4_2, σ4_ => if (sG σ4_ 5 o) ≤ x4_2 then (some (x4_1, σ4_)) else (if gd x4_2 12 = true then (if (sA σ4_ 0 o (x4_2).toNatClampNeg) = (-1 : Int32) then (f_X4_howManyMarks_j28 x4_2 (f_X4_howManyMarks_L4 o n4) x4_1 σ4_) else (f_X4_howManyMarks_j28 x4_2 (f_X4_howManyMarks_L4 o n4) (x4_1 + (1 : Int32)) σ4_)) else none)
def f_X4_howManyMarks (o : Nat) (σ : ss_M) : Option (Int32 × ss_M) :=
  f_X4_howManyMarks_L4 o FU (0 : Int32) (0 : Int32) σ
def rm_X4_howManyMarks : Room := { frames := 0, cells := 0, slots := 0, locals := 0 }
theorem hd_X4_howManyMarks : yX4_howManyMarks.cls = RX4 ∧ yX4_howManyMarks.cls ≠ "java/lang/invoke/MethodHandle" ∧ yX4_howManyMarks.cls ≠ "java/lang/invoke/VarHandle" ∧ (parseMethodDescriptor yX4_howManyMarks.desc).map (fun d => d.parameters.length) = some 0 := by decide +kernel
set_option maxHeartbeats 4000000 in
set_option maxRecDepth 100000 in
theorem c_X4_howManyMarks (l : Launch) {D : va_G} {Y : Nat → ClassId} {A : ss_A} (hAD : AD 0 A) {o : Nat} (ho : o < 4) {r : Int32} {σ σ' : ss_M} (hf : f_X4_howManyMarks o σ = some (r, σ')) : Met l yX4_howManyMarks wsX4_howManyMarks rm_X4_howManyMarks (Pc0 0 D Y A σ [.ref (A 0 3 o)]) (Qi0 0 D Y A r σ') 0 0 (FA 0 A) := by
  rw [f_X4_howManyMarks] at hf
  refine Met0 (cc := cX4_howManyMarks) (maxL := 3) (ret := (some .int)) (own := RX4) (by decide +kernel) rfl hAD rfl (Nat.le_of_ble_eq_true rfl) ?_
  intro p e s m args below meth c S hr hlocks hW ls hl
  obtain ⟨hx, hb, hml, hown, hts⟩ := id S
  have iX4 : ∀ q ∈ wsX40, q ∈ wsX4_howManyMarks := fun q h => List.mem_cons_of_mem _ (List.mem_append_left _ (List.mem_append_right _ (h)))
  have iX2 : ∀ q ∈ wsX20, q ∈ wsX4_howManyMarks := fun q h => List.mem_cons_of_mem _ (List.mem_append_right _ (h))
  have hl : lv_has ls 3 [(0, .ref (A 0 3 o))] := hl
  refine lv_iconst (v := (0 : Int32)) hx hb dX4_howManyMarks_0 (by decide) ?_
  refine lv_istore_n (lv' := [(1, .int (0 : Int32)), (0, .ref (A 0 3 o))]) hx hb dX4_howManyMarks_1 rfl hl (by decide) rfl (fun ls hl => ?_)
  refine lv_iconst (v := (0 : Int32)) hx hb dX4_howManyMarks_2 (by decide) ?_
  refine lv_istore_n (lv' := [(2, .int (0 : Int32)), (1, .int (0 : Int32)), (0, .ref (A 0 3 o))]) hx hb dX4_howManyMarks_3 rfl hl (by decide) rfl (fun ls hl => ?_)
  have L4 : ∀ (n4 : Nat), ∀ (x4_1 : Int32) (x4_2 : Int32) (σ4_ : ss_M) (H : Heap) (locs : List Loc) (ls : Array Slot), sW 0 D Y A σ4_ s s.heap H locs → lv_has ls 3 [(0, .ref (A 0 3 o)), (1, .int x4_1), (2, .int x4_2)] → f_X4_howManyMarks_L4 o n4 x4_1 x4_2 σ4_ = some (r, σ') → W p l e rm_X4_howManyMarks s m args below meth c H locs 0 0 (MQ below (Qi0 0 D Y A r σ') args s 0 0 (FA 0 A)) (F0 m 4 ls []) := by
    intro n4
    induction n4 with
    | zero =>
      intro x4_1 x4_2 σ4_ H locs ls hW hl hf
      rw [f_X4_howManyMarks_L4] at hf
      cases hf
    | succ n4 ih4 =>
      intro x4_1 x4_2 σ4_ H locs ls hW hl hf
      rw [f_X4_howManyMarks_L4] at hf
      refine lv_iload_n hx hb dX4_howManyMarks_4 rfl (lv_at hl 2 rfl) ?_
      refine lv_aload_n hx hb dX4_howManyMarks_5 rfl (lv_at hl 0 rfl) ?_
      refine gf_X4_words hx hb hts hown hW (kS_in ho) iX4 (List.mem_of_getElem? (i := 1) rfl) dX4_howManyMarks_6 ?_
      refine lv_icmp_ge (tgt := 34) hx hb dX4_howManyMarks_9 (by decide) (fun q1 => ?_) (fun q1 => ?_)
      · rw [if_pos q1] at hf
        refine lv_iload_n hx hb dX4_howManyMarks_34 rfl (lv_at hl 1 rfl) ?_
        exact re_i hx hb hr hlocks hW (Option.some.inj hf) dX4_howManyMarks_35
      · rw [if_neg q1] at hf
        refine lv_aload_n hx hb dX4_howManyMarks_12 rfl (lv_at hl 0 rfl) ?_
        refine gf_X4_marks hx hb hts hown hW (kS_in ho) iX4 (List.mem_of_getElem? (i := 2) rfl) dX4_howManyMarks_13 ?_
        refine gf_X2_kinds hx hb hts hown hW (kS_in (Nat.lt_of_lt_of_le ho (by decide))) iX2 (List.mem_of_getElem? (i := 3) rfl) dX4_howManyMarks_16 ?_
        refine lv_iload_n hx hb dX4_howManyMarks_19 rfl (lv_at hl 2 rfl) ?_
        obtain ⟨g2, hf⟩ := ss_if hf
        refine ra_i hx hb hW (kS_in (Nat.lt_of_lt_of_le ho (by decide))) g2 dX4_howManyMarks_20 ?_
        refine lv_iconst (v := (-1 : Int32)) hx hb dX4_howManyMarks_21 (by decide) ?_
        have J28 : ∀ (x28_1 : Int32) (σ28_ : ss_M) (H : Heap) (locs : List Loc) (ls : Array Slot), sW 0 D Y A σ28_ s s.heap H locs → lv_has ls 3 [(0, .ref (A 0 3 o)), (1, .int x28_1), (2, .int x4_2)] → f_X4_howManyMarks_j28 x4_2 (f_X4_howManyMarks_L4 o n4) x28_1 σ28_ = some (r, σ') → W p l e rm_X4_howManyMarks s m args below meth c H locs 0 0 (MQ below (Qi0 0 D Y A r σ') args s 0 0 (FA 0 A)) (F0 m 28 ls []) := by
          intro x28_1 σ28_ H locs ls hW hl hf
          rw [f_X4_howManyMarks_j28] at hf
          refine lv_iinc (v := (x4_2 + (1 : Int32))) (lv' := [(2, .int (x4_2 + (1 : Int32))), (0, .ref (A 0 3 o)), (1, .int x28_1)]) hx hb dX4_howManyMarks_28 hl (k := 2) rfl rfl (by decide) rfl (fun ls hl => ?_)
          refine lv_goto (tgt := 4) hx hb dX4_howManyMarks_31 (by decide) ?_
          exact ih4 x28_1 (x4_2 + (1 : Int32)) σ28_ _ _ _ hW (lv_sub hl [1, 2, 0] rfl) hf
        refine lv_icmp_eq (tgt := 28) hx hb dX4_howManyMarks_22 (by decide) (fun q3 => ?_) (fun q3 => ?_)
        · rw [if_pos q3] at hf
          exact J28 x4_1 σ4_ _ _ _ hW (lv_sub hl [0, 1, 2] rfl) hf
        · rw [if_neg q3] at hf
          refine lv_iinc (v := (x4_1 + (1 : Int32))) (lv' := [(1, .int (x4_1 + (1 : Int32))), (0, .ref (A 0 3 o)), (2, .int x4_2)]) hx hb dX4_howManyMarks_25 hl (k := 1) rfl rfl (by decide) rfl (fun ls hl => ?_)
          exact J28 (x4_1 + (1 : Int32)) σ4_ _ _ _ hW (lv_sub hl [1, 0, 2] rfl) hf
  exact L4 FU (0 : Int32) (0 : Int32) σ _ _ _ hW (lv_sub hl [2, 1, 0] rfl) hf
def f_X4_dropOldest_j35 (σ : ss_M) (o : Nat) (σ35_ : ss_M) : Option ss_M :=
  if gd (7 : Int32) 8 = true then (some (sGu (sRu σ35_ o (sUp (sR σ35_ o) ((7 : Int32)).toNatClampNeg (sR σ o ((0 : Int32)).toNatClampNeg))) 7 o (7 : Int32))) else none
def f_X4_dropOldest_L9 (o : Nat) (k9_35 : ss_M → Option ss_M) : Nat → Int32 → ss_M → Option ss_M
  | 0, _, _ => none
  | n9 + 1, x9_2, σ9_ => if (8 : Int32) ≤ x9_2 then (k9_35 σ9_) else (if gd x9_2 8 = true then (if sR σ9_ o (x9_2).toNatClampNeg < 36 then (if gd (x9_2 - (1 : Int32)) 8 = true then ((f_X4_dropOldest_L9 o k9_35 n9) (x9_2 + (1 : Int32)) (sRu σ9_ o (sUp (sR σ9_ o) ((x9_2 - (1 : Int32))).toNatClampNeg (sR σ9_ o (x9_2).toNatClampNeg)))) else none) else none) else none)
def f_X4_dropOldest (o : Nat) (σ : ss_M) : Option ss_M :=
  if gd (0 : Int32) 8 = true then (if sR σ o ((0 : Int32)).toNatClampNeg < 36 then (f_X4_dropOldest_L9 o (f_X4_dropOldest_j35 σ o) FU (1 : Int32) σ) else none) else none
def rm_X4_dropOldest : Room := { frames := 0, cells := 0, slots := 0, locals := 0 }
theorem hd_X4_dropOldest : yX4_dropOldest.cls = RX4 ∧ yX4_dropOldest.cls ≠ "java/lang/invoke/MethodHandle" ∧ yX4_dropOldest.cls ≠ "java/lang/invoke/VarHandle" ∧ (parseMethodDescriptor yX4_dropOldest.desc).map (fun d => d.parameters.length) = some 0 := by decide +kernel
set_option maxHeartbeats 4000000 in
set_option maxRecDepth 100000 in
theorem c_X4_dropOldest (l : Launch) {D : va_G} {Y : Nat → ClassId} {A : ss_A} (hAD : AD 0 A) {o : Nat} (ho : o < 4) {σ σ' : ss_M} (hf : f_X4_dropOldest o σ = some σ') : Met l yX4_dropOldest wsX4_dropOldest rm_X4_dropOldest (Pc0 0 D Y A σ [.ref (A 0 3 o)]) (Qv0 0 D Y A σ') 0 0 (FA 0 A) := by
  rw [f_X4_dropOldest] at hf
  refine Met0 (cc := cX4_dropOldest) (maxL := 3) (ret := none) (own := RX4) (by decide +kernel) rfl hAD rfl (Nat.le_of_ble_eq_true rfl) ?_
  intro p e s m args below meth c S hr hlocks hW ls hl
  obtain ⟨hx, hb, hml, hown, hts⟩ := id S
  have iX4 : ∀ q ∈ wsX40, q ∈ wsX4_dropOldest := fun q h => List.mem_cons_of_mem _ (List.mem_append_right _ (h))
  have hl : lv_has ls 3 [(0, .ref (A 0 3 o))] := hl
  refine lv_aload_n hx hb dX4_dropOldest_0 rfl (lv_at hl 0 rfl) ?_
  refine gf_X4_past hx hb hts hown hW (kS_in ho) iX4 (List.mem_of_getElem? (i := 1) rfl) dX4_dropOldest_1 ?_
  refine lv_iconst (v := (0 : Int32)) hx hb dX4_dropOldest_4 (by decide) ?_
  obtain ⟨g1, hf⟩ := ss_if hf
  obtain ⟨g2, hf⟩ := ss_if hf
  refine ra_q hx hb hW (kS_in ho) g1 dX4_dropOldest_5 ?_
  refine lv_astore_n (lv' := [(1, .ref (A 0 1 (sR σ o ((0 : Int32)).toNatClampNeg))), (0, .ref (A 0 3 o))]) hx hb dX4_dropOldest_6 rfl hl (by decide) rfl (fun ls hl => ?_)
  refine lv_iconst (v := (1 : Int32)) hx hb dX4_dropOldest_7 (by decide) ?_
  refine lv_istore_n (lv' := [(2, .int (1 : Int32)), (1, .ref (A 0 1 (sR σ o ((0 : Int32)).toNatClampNeg))), (0, .ref (A 0 3 o))]) hx hb dX4_dropOldest_8 rfl hl (by decide) rfl (fun ls hl => ?_)
  have J35 : ∀ (σ35_ : ss_M) (H : Heap) (locs : List Loc) (ls : Array Slot), sW 0 D Y A σ35_ s s.heap H locs → lv_has ls 3 [(0, .ref (A 0 3 o)), (1, .ref (A 0 1 (sR σ o ((0 : Int32)).toNatClampNeg)))] → f_X4_dropOldest_j35 σ o σ35_ = some σ' → W p l e rm_X4_dropOldest s m args below meth c H locs 0 0 (MQ below (Qv0 0 D Y A σ') args s 0 0 (FA 0 A)) (F0 m 35 ls []) := by
    intro σ35_ H locs ls hW hl hf
    rw [f_X4_dropOldest_j35] at hf
    refine lv_aload_n hx hb dX4_dropOldest_35 rfl (lv_at hl 0 rfl) ?_
    refine gf_X4_past hx hb hts hown hW (kS_in ho) iX4 (List.mem_of_getElem? (i := 1) rfl) dX4_dropOldest_36 ?_
    refine lv_bipush (v := (7 : Int32)) hx hb dX4_dropOldest_39 (by decide) ?_
    refine lv_aload_n hx hb dX4_dropOldest_41 rfl (lv_at hl 1 rfl) ?_
    obtain ⟨g3, hf⟩ := ss_if hf
    refine rs_q hx hb hW (kS_in ho) (kS_in g2) g3 dX4_dropOldest_42 (fun H locs hW => ?_)
    refine lv_aload_n hx hb dX4_dropOldest_43 rfl (lv_at hl 0 rfl) ?_
    refine lv_bipush (v := (7 : Int32)) hx hb dX4_dropOldest_44 (by decide) ?_
    refine pf_X4_pasts hx hb hts hown hW (kS_in ho) iX4 (List.mem_of_getElem? (i := 2) rfl) dX4_dropOldest_46 (fun H locs hW => ?_)
    exact re_v hx hb hr hlocks hW (Option.some.inj hf) dX4_dropOldest_49
  have L9 : ∀ (n9 : Nat), ∀ (x9_2 : Int32) (σ9_ : ss_M) (H : Heap) (locs : List Loc) (ls : Array Slot), sW 0 D Y A σ9_ s s.heap H locs → lv_has ls 3 [(0, .ref (A 0 3 o)), (1, .ref (A 0 1 (sR σ o ((0 : Int32)).toNatClampNeg))), (2, .int x9_2)] → f_X4_dropOldest_L9 o (f_X4_dropOldest_j35 σ o) n9 x9_2 σ9_ = some σ' → W p l e rm_X4_dropOldest s m args below meth c H locs 0 0 (MQ below (Qv0 0 D Y A σ') args s 0 0 (FA 0 A)) (F0 m 9 ls []) := by
    intro n9
    induction n9 with
    | zero =>
      intro x9_2 σ9_ H locs ls hW hl hf
      rw [f_X4_dropOldest_L9] at hf
      cases hf
    | succ n9 ih9 =>
      intro x9_2 σ9_ H locs ls hW hl hf
      rw [f_X4_dropOldest_L9] at hf
      refine lv_iload_n hx hb dX4_dropOldest_9 rfl (lv_at hl 2 rfl) ?_
      refine lv_bipush (v := (8 : Int32)) hx hb dX4_dropOldest_10 (by decide) ?_
      refine lv_icmp_ge (tgt := 35) hx hb dX4_dropOldest_12 (by decide) (fun q4 => ?_) (fun q4 => ?_)
      · rw [if_pos q4] at hf
        exact J35 σ9_ _ _ _ hW (lv_sub hl [0, 1] rfl) hf
      · rw [if_neg q4] at hf
        refine lv_aload_n hx hb dX4_dropOldest_15 rfl (lv_at hl 0 rfl) ?_
        refine gf_X4_past hx hb hts hown hW (kS_in ho) iX4 (List.mem_of_getElem? (i := 1) rfl) dX4_dropOldest_16 ?_
        refine lv_iload_n hx hb dX4_dropOldest_19 rfl (lv_at hl 2 rfl) ?_
        refine lv_iconst (v := (1 : Int32)) hx hb dX4_dropOldest_20 (by decide) ?_
        refine lv_isub hx hb dX4_dropOldest_21 ?_
        refine lv_aload_n hx hb dX4_dropOldest_22 rfl (lv_at hl 0 rfl) ?_
        refine gf_X4_past hx hb hts hown hW (kS_in ho) iX4 (List.mem_of_getElem? (i := 1) rfl) dX4_dropOldest_23 ?_
        refine lv_iload_n hx hb dX4_dropOldest_26 rfl (lv_at hl 2 rfl) ?_
        obtain ⟨g5, hf⟩ := ss_if hf
        obtain ⟨g6, hf⟩ := ss_if hf
        refine ra_q hx hb hW (kS_in ho) g5 dX4_dropOldest_27 ?_
        obtain ⟨g7, hf⟩ := ss_if hf
        refine rs_q hx hb hW (kS_in ho) (kS_in g6) g7 dX4_dropOldest_28 (fun H locs hW => ?_)
        refine lv_iinc (v := (x9_2 + (1 : Int32))) (lv' := [(2, .int (x9_2 + (1 : Int32))), (0, .ref (A 0 3 o)), (1, .ref (A 0 1 (sR σ o ((0 : Int32)).toNatClampNeg)))]) hx hb dX4_dropOldest_29 hl (k := 2) rfl rfl (by decide) rfl (fun ls hl => ?_)
        refine lv_goto (tgt := 9) hx hb dX4_dropOldest_32 (by decide) ?_
        exact ih9 (x9_2 + (1 : Int32)) (sRu σ9_ o (sUp (sR σ9_ o) ((x9_2 - (1 : Int32))).toNatClampNeg (sR σ9_ o (x9_2).toNatClampNeg))) _ _ _ hW (lv_sub hl [1, 2, 0] rfl) hf
  exact L9 FU (1 : Int32) σ _ _ _ hW (lv_sub hl [2, 1, 0] rfl) hf
def f_X4_remember_j13 (o : Nat) (σ13_ : ss_M) : Option ss_M :=
  if gd (sG σ13_ 7 o) 8 = true then (if sR σ13_ o ((sG σ13_ 7 o)).toNatClampNeg < 36 then (Option.bind (f_X2_copy (sR σ13_ o ((sG σ13_ 7 o)).toNatClampNeg) o σ13_) (fun σ3 => some (sGu σ3 7 o ((sG σ3 7 o) + (1 : Int32))))) else none) else none
def f_X4_remember (o : Nat) (σ : ss_M) : Option ss_M :=
  if (sG σ 7 o) = (8 : Int32) then (Option.bind (f_X4_dropOldest o σ) (fun σ5 => f_X4_remember_j13 o σ5)) else (f_X4_remember_j13 o σ)
def rm_X4_remember : Room := { frames := 4, cells := 0, slots := 0, locals := 200 }
theorem hd_X4_remember : yX4_remember.cls = RX4 ∧ yX4_remember.cls ≠ "java/lang/invoke/MethodHandle" ∧ yX4_remember.cls ≠ "java/lang/invoke/VarHandle" ∧ (parseMethodDescriptor yX4_remember.desc).map (fun d => d.parameters.length) = some 0 := by decide +kernel
set_option maxHeartbeats 4000000 in
set_option maxRecDepth 100000 in
theorem c_X4_remember (l : Launch) {D : va_G} {Y : Nat → ClassId} {A : ss_A} (hAD : AD 0 A) {o : Nat} (ho : o < 4) {σ σ' : ss_M} (hf : f_X4_remember o σ = some σ') : Met l yX4_remember wsX4_remember rm_X4_remember (Pc0 0 D Y A σ [.ref (A 0 3 o)]) (Qv0 0 D Y A σ') 0 0 (FA 0 A) := by
  rw [f_X4_remember] at hf
  refine Met0 (cc := cX4_remember) (maxL := 1) (ret := none) (own := RX4) (by decide +kernel) rfl hAD rfl (Nat.le_of_ble_eq_true rfl) ?_
  intro p e s m args below meth c S hr hlocks hW ls hl
  obtain ⟨hx, hb, hml, hown, hts⟩ := id S
  have iX4 : ∀ q ∈ wsX40, q ∈ wsX4_remember := fun q h => List.mem_cons_of_mem _ (List.mem_append_left _ (List.mem_append_right _ (h)))
  have hl : lv_has ls 1 [(0, .ref (A 0 3 o))] := hl
  refine lv_aload_n hx hb dX4_remember_0 rfl (lv_at hl 0 rfl) ?_
  refine gf_X4_pasts hx hb hts hown hW (kS_in ho) iX4 (List.mem_of_getElem? (i := 1) rfl) dX4_remember_1 ?_
  refine lv_bipush (v := (8 : Int32)) hx hb dX4_remember_4 (by decide) ?_
  have J13 : ∀ (σ13_ : ss_M) (H : Heap) (locs : List Loc) (ls : Array Slot), sW 0 D Y A σ13_ s s.heap H locs → lv_has ls 1 [(0, .ref (A 0 3 o))] → f_X4_remember_j13 o σ13_ = some σ' → W p l e rm_X4_remember s m args below meth c H locs 0 0 (MQ below (Qv0 0 D Y A σ') args s 0 0 (FA 0 A)) (F0 m 13 ls []) := by
    intro σ13_ H locs ls hW hl hf
    rw [f_X4_remember_j13] at hf
    refine lv_aload_n hx hb dX4_remember_13 rfl (lv_at hl 0 rfl) ?_
    refine gf_X4_past hx hb hts hown hW (kS_in ho) iX4 (List.mem_of_getElem? (i := 2) rfl) dX4_remember_14 ?_
    refine lv_aload_n hx hb dX4_remember_17 rfl (lv_at hl 0 rfl) ?_
    refine gf_X4_pasts hx hb hts hown hW (kS_in ho) iX4 (List.mem_of_getElem? (i := 1) rfl) dX4_remember_18 ?_
    obtain ⟨g1, hf⟩ := ss_if hf
    obtain ⟨g2, hf⟩ := ss_if hf
    refine ra_q hx hb hW (kS_in ho) g1 dX4_remember_21 ?_
    refine lv_aload_n hx hb dX4_remember_22 rfl (lv_at hl 0 rfl) ?_
    refine gf_X4_marks hx hb hts hown hW (kS_in ho) iX4 (List.mem_of_getElem? (i := 3) rfl) dX4_remember_23 ?_
    obtain ⟨σ3, hf3, hf⟩ := ss_bind hf
    refine rv_v S (c_X2_copy l hAD g2 (Nat.lt_of_lt_of_le ho (by decide)) hf3) (cwV 1 hts gX4_remember_X2_copy rfl rfl rfl hd_X2_copy ⟨(Nat.le_of_ble_eq_true rfl), (Nat.le_of_ble_eq_true rfl)⟩) hW (kS_in g2) rfl rfl rfl hl.1 (Nat.le_of_ble_eq_true rfl) ⟨Nat.zero_le _, Nat.zero_le _⟩ dX4_remember_26 (fun H locs hW => ?_)
    refine lv_aload_n hx hb dX4_remember_29 rfl (lv_at hl 0 rfl) ?_
    refine lv_dup hx hb dX4_remember_30 rfl ?_
    refine gf_X4_pasts hx hb hts hown hW (kS_in ho) iX4 (List.mem_of_getElem? (i := 1) rfl) dX4_remember_31 ?_
    refine lv_iconst (v := (1 : Int32)) hx hb dX4_remember_34 (by decide) ?_
    refine lv_iadd hx hb dX4_remember_35 ?_
    refine pf_X4_pasts hx hb hts hown hW (kS_in ho) iX4 (List.mem_of_getElem? (i := 1) rfl) dX4_remember_36 (fun H locs hW => ?_)
    exact re_v hx hb hr hlocks hW (Option.some.inj hf) dX4_remember_39
  refine lv_icmp_ne (tgt := 13) hx hb dX4_remember_6 (by decide) (fun q4 => ?_) (fun q4 => ?_)
  · rw [if_neg q4] at hf
    exact J13 σ _ _ _ hW (lv_sub hl [0] rfl) hf
  · rw [if_pos q4] at hf
    refine lv_aload_n hx hb dX4_remember_9 rfl (lv_at hl 0 rfl) ?_
    obtain ⟨σ5, hf5, hf⟩ := ss_bind hf
    refine rv_v S (c_X4_dropOldest l hAD ho hf5) (cwV 0 hts gX4_remember_X4_dropOldest rfl rfl rfl hd_X4_dropOldest ⟨(Nat.le_of_ble_eq_true rfl), (Nat.le_of_ble_eq_true rfl)⟩) hW (kS_in ho) rfl rfl rfl hl.1 (Nat.le_of_ble_eq_true rfl) ⟨Nat.zero_le _, Nat.zero_le _⟩ dX4_remember_10 (fun H locs hW => ?_)
    exact J13 σ5 _ _ _ hW (lv_sub hl [0] rfl) hf
def f_X4_goBack (o : Nat) (σ : ss_M) : Option ss_M :=
  if (sG σ 7 o) ≤ (0 : Int32) then (some σ) else (if gd (sG (sGu σ 7 o ((sG σ 7 o) - (1 : Int32))) 7 o) 8 = true then (if sR (sGu σ 7 o ((sG σ 7 o) - (1 : Int32))) o ((sG (sGu σ 7 o ((sG σ 7 o) - (1 : Int32))) 7 o)).toNatClampNeg < 36 then (Option.bind (f_X2_copy o (sR (sGu σ 7 o ((sG σ 7 o) - (1 : Int32))) o ((sG (sGu σ 7 o ((sG σ 7 o) - (1 : Int32))) 7 o)).toNatClampNeg) (sGu σ 7 o ((sG σ 7 o) - (1 : Int32)))) (fun σ4 => some σ4)) else none) else none)
def rm_X4_goBack : Room := { frames := 4, cells := 0, slots := 0, locals := 200 }
theorem hd_X4_goBack : yX4_goBack.cls = RX4 ∧ yX4_goBack.cls ≠ "java/lang/invoke/MethodHandle" ∧ yX4_goBack.cls ≠ "java/lang/invoke/VarHandle" ∧ (parseMethodDescriptor yX4_goBack.desc).map (fun d => d.parameters.length) = some 0 := by decide +kernel
set_option maxHeartbeats 4000000 in
set_option maxRecDepth 100000 in
theorem c_X4_goBack (l : Launch) {D : va_G} {Y : Nat → ClassId} {A : ss_A} (hAD : AD 0 A) {o : Nat} (ho : o < 4) {σ σ' : ss_M} (hf : f_X4_goBack o σ = some σ') : Met l yX4_goBack wsX4_goBack rm_X4_goBack (Pc0 0 D Y A σ [.ref (A 0 3 o)]) (Qv0 0 D Y A σ') 0 0 (FA 0 A) := by
  rw [f_X4_goBack] at hf
  refine Met0 (cc := cX4_goBack) (maxL := 1) (ret := none) (own := RX4) (by decide +kernel) rfl hAD rfl (Nat.le_of_ble_eq_true rfl) ?_
  intro p e s m args below meth c S hr hlocks hW ls hl
  obtain ⟨hx, hb, hml, hown, hts⟩ := id S
  have iX4 : ∀ q ∈ wsX40, q ∈ wsX4_goBack := fun q h => List.mem_cons_of_mem _ (List.mem_append_left _ (List.mem_append_right _ (h)))
  have hl : lv_has ls 1 [(0, .ref (A 0 3 o))] := hl
  refine lv_aload_n hx hb dX4_goBack_0 rfl (lv_at hl 0 rfl) ?_
  refine gf_X4_pasts hx hb hts hown hW (kS_in ho) iX4 (List.mem_of_getElem? (i := 1) rfl) dX4_goBack_1 ?_
  refine lv_if_le (tgt := 33) hx hb dX4_goBack_4 (by decide) (fun q1 => ?_) (fun q1 => ?_)
  · rw [if_pos q1] at hf
    exact re_v hx hb hr hlocks hW (Option.some.inj hf) dX4_goBack_33
  · rw [if_neg q1] at hf
    refine lv_aload_n hx hb dX4_goBack_7 rfl (lv_at hl 0 rfl) ?_
    refine lv_dup hx hb dX4_goBack_8 rfl ?_
    refine gf_X4_pasts hx hb hts hown hW (kS_in ho) iX4 (List.mem_of_getElem? (i := 1) rfl) dX4_goBack_9 ?_
    refine lv_iconst (v := (1 : Int32)) hx hb dX4_goBack_12 (by decide) ?_
    refine lv_isub hx hb dX4_goBack_13 ?_
    refine pf_X4_pasts hx hb hts hown hW (kS_in ho) iX4 (List.mem_of_getElem? (i := 1) rfl) dX4_goBack_14 (fun H locs hW => ?_)
    refine lv_aload_n hx hb dX4_goBack_17 rfl (lv_at hl 0 rfl) ?_
    refine gf_X4_marks hx hb hts hown hW (kS_in ho) iX4 (List.mem_of_getElem? (i := 2) rfl) dX4_goBack_18 ?_
    refine lv_aload_n hx hb dX4_goBack_21 rfl (lv_at hl 0 rfl) ?_
    refine gf_X4_past hx hb hts hown hW (kS_in ho) iX4 (List.mem_of_getElem? (i := 3) rfl) dX4_goBack_22 ?_
    refine lv_aload_n hx hb dX4_goBack_25 rfl (lv_at hl 0 rfl) ?_
    refine gf_X4_pasts hx hb hts hown hW (kS_in ho) iX4 (List.mem_of_getElem? (i := 1) rfl) dX4_goBack_26 ?_
    obtain ⟨g2, hf⟩ := ss_if hf
    obtain ⟨g3, hf⟩ := ss_if hf
    refine ra_q hx hb hW (kS_in ho) g2 dX4_goBack_29 ?_
    obtain ⟨σ4, hf4, hf⟩ := ss_bind hf
    refine rv_v S (c_X2_copy l hAD (Nat.lt_of_lt_of_le ho (by decide)) g3 hf4) (cwV 1 hts gX4_goBack_X2_copy rfl rfl rfl hd_X2_copy ⟨(Nat.le_of_ble_eq_true rfl), (Nat.le_of_ble_eq_true rfl)⟩) hW (kS_in (Nat.lt_of_lt_of_le ho (by decide))) rfl rfl rfl hl.1 (Nat.le_of_ble_eq_true rfl) ⟨Nat.zero_le _, Nat.zero_le _⟩ dX4_goBack_30 (fun H locs hW => ?_)
    exact re_v hx hb hr hlocks hW (Option.some.inj hf) dX4_goBack_33
def f_X4_say_j53 (o : Nat) (σ53_ : ss_M) : Option (Int32 × ss_M) :=
  some ((sG σ53_ 5 o), σ53_)
def f_X4_say_L7 (o : Nat) (k7_53 : ss_M → Option (Int32 × ss_M)) : Nat → Int32 → Int32 → ss_M → Option (Int32 × ss_M)
  | 0, _, _, _ => none
  | n7 + 1, x7_1, x7_2, σ7_ => if (sG σ7_ 5 o) ≤ x7_2 then (k7_53 σ7_) else (if gd x7_2 12 = true then (ss_bd (f_X4_leftBehind o x7_2 (sA σ7_ 4 o (x7_2).toNatClampNeg) x7_1 (sG σ7_ 3 o) σ7_) (fun r3 σ3 => if r3 = (-1 : Int32) then (some (x7_2, σ3)) else (Option.bind (f_X2_readOnce o x7_2 σ3) (fun σ5 => (f_X4_say_L7 o k7_53 n7) r3 (x7_2 + (1 : Int32)) σ5)))) else none)
def f_X4_say (o : Nat) (σ : ss_M) : Option (Int32 × ss_M) :=
  f_X4_say_L7 o (f_X4_say_j53 o) FU (sG σ 3 o) (0 : Int32) σ
def rm_X4_say : Room := { frames := 6, cells := 0, slots := 0, locals := 300 }
theorem hd_X4_say : yX4_say.cls = RX4 ∧ yX4_say.cls ≠ "java/lang/invoke/MethodHandle" ∧ yX4_say.cls ≠ "java/lang/invoke/VarHandle" ∧ (parseMethodDescriptor yX4_say.desc).map (fun d => d.parameters.length) = some 0 := by decide +kernel
set_option maxHeartbeats 4000000 in
set_option maxRecDepth 100000 in
theorem c_X4_say (l : Launch) {D : va_G} {Y : Nat → ClassId} {A : ss_A} (hAD : AD 0 A) {o : Nat} (ho : o < 4) {r : Int32} {σ σ' : ss_M} (hf : f_X4_say o σ = some (r, σ')) : Met l yX4_say wsX4_say rm_X4_say (Pc0 0 D Y A σ [.ref (A 0 3 o)]) (Qi0 0 D Y A r σ') 0 0 (FA 0 A) := by
  rw [f_X4_say] at hf
  refine Met0 (cc := cX4_say) (maxL := 3) (ret := (some .int)) (own := RX4) (by decide +kernel) rfl hAD rfl (Nat.le_of_ble_eq_true rfl) ?_
  intro p e s m args below meth c S hr hlocks hW ls hl
  obtain ⟨hx, hb, hml, hown, hts⟩ := id S
  have iX4 : ∀ q ∈ wsX40, q ∈ wsX4_say := fun q h => List.mem_cons_of_mem _ (List.mem_append_left _ (List.mem_append_right _ (h)))
  have hl : lv_has ls 3 [(0, .ref (A 0 3 o))] := hl
  refine lv_aload_n hx hb dX4_say_0 rfl (lv_at hl 0 rfl) ?_
  refine gf_X4_breath hx hb hts hown hW (kS_in ho) iX4 (List.mem_of_getElem? (i := 1) rfl) dX4_say_1 ?_
  refine lv_istore_n (lv' := [(1, .int (sG σ 3 o)), (0, .ref (A 0 3 o))]) hx hb dX4_say_4 rfl hl (by decide) rfl (fun ls hl => ?_)
  refine lv_iconst (v := (0 : Int32)) hx hb dX4_say_5 (by decide) ?_
  refine lv_istore_n (lv' := [(2, .int (0 : Int32)), (1, .int (sG σ 3 o)), (0, .ref (A 0 3 o))]) hx hb dX4_say_6 rfl hl (by decide) rfl (fun ls hl => ?_)
  have J53 : ∀ (σ53_ : ss_M) (H : Heap) (locs : List Loc) (ls : Array Slot), sW 0 D Y A σ53_ s s.heap H locs → lv_has ls 3 [(0, .ref (A 0 3 o))] → f_X4_say_j53 o σ53_ = some (r, σ') → W p l e rm_X4_say s m args below meth c H locs 0 0 (MQ below (Qi0 0 D Y A r σ') args s 0 0 (FA 0 A)) (F0 m 53 ls []) := by
    intro σ53_ H locs ls hW hl hf
    rw [f_X4_say_j53] at hf
    refine lv_aload_n hx hb dX4_say_53 rfl (lv_at hl 0 rfl) ?_
    refine gf_X4_words hx hb hts hown hW (kS_in ho) iX4 (List.mem_of_getElem? (i := 2) rfl) dX4_say_54 ?_
    exact re_i hx hb hr hlocks hW (Option.some.inj hf) dX4_say_57
  have L7 : ∀ (n7 : Nat), ∀ (x7_1 : Int32) (x7_2 : Int32) (σ7_ : ss_M) (H : Heap) (locs : List Loc) (ls : Array Slot), sW 0 D Y A σ7_ s s.heap H locs → lv_has ls 3 [(0, .ref (A 0 3 o)), (1, .int x7_1), (2, .int x7_2)] → f_X4_say_L7 o (f_X4_say_j53 o) n7 x7_1 x7_2 σ7_ = some (r, σ') → W p l e rm_X4_say s m args below meth c H locs 0 0 (MQ below (Qi0 0 D Y A r σ') args s 0 0 (FA 0 A)) (F0 m 7 ls []) := by
    intro n7
    induction n7 with
    | zero =>
      intro x7_1 x7_2 σ7_ H locs ls hW hl hf
      rw [f_X4_say_L7] at hf
      cases hf
    | succ n7 ih7 =>
      intro x7_1 x7_2 σ7_ H locs ls hW hl hf
      rw [f_X4_say_L7] at hf
      refine lv_iload_n hx hb dX4_say_7 rfl (lv_at hl 2 rfl) ?_
      refine lv_aload_n hx hb dX4_say_8 rfl (lv_at hl 0 rfl) ?_
      refine gf_X4_words hx hb hts hown hW (kS_in ho) iX4 (List.mem_of_getElem? (i := 2) rfl) dX4_say_9 ?_
      refine lv_icmp_ge (tgt := 53) hx hb dX4_say_12 (by decide) (fun q1 => ?_) (fun q1 => ?_)
      · rw [if_pos q1] at hf
        exact J53 σ7_ _ _ _ hW (lv_sub hl [0] rfl) hf
      · rw [if_neg q1] at hf
        refine lv_aload_n hx hb dX4_say_15 rfl (lv_at hl 0 rfl) ?_
        refine lv_iload_n hx hb dX4_say_16 rfl (lv_at hl 2 rfl) ?_
        refine lv_aload_n hx hb dX4_say_17 rfl (lv_at hl 0 rfl) ?_
        refine gf_X4_lengths hx hb hts hown hW (kS_in ho) iX4 (List.mem_of_getElem? (i := 3) rfl) dX4_say_18 ?_
        refine lv_iload_n hx hb dX4_say_21 rfl (lv_at hl 2 rfl) ?_
        obtain ⟨g2, hf⟩ := ss_if hf
        refine ra_i hx hb hW (kS_in ho) g2 dX4_say_22 ?_
        refine lv_iload_n hx hb dX4_say_23 rfl (lv_at hl 1 rfl) ?_
        refine lv_aload_n hx hb dX4_say_24 rfl (lv_at hl 0 rfl) ?_
        refine gf_X4_breath hx hb hts hown hW (kS_in ho) iX4 (List.mem_of_getElem? (i := 1) rfl) dX4_say_25 ?_
        obtain ⟨r3, σ3, hf3, hf⟩ := ss_bd_some hf
        refine rv_i S (c_X4_leftBehind l hAD ho hf3) (cwV 4 hts gX4_say_X4_leftBehind rfl rfl rfl hd_X4_leftBehind ⟨(Nat.le_of_ble_eq_true rfl), (Nat.le_of_ble_eq_true rfl)⟩) hW (kS_in ho) rfl rfl rfl hl.1 (Nat.le_of_ble_eq_true rfl) ⟨Nat.zero_le _, Nat.zero_le _⟩ dX4_say_28 (fun H locs hW => ?_)
        refine lv_istore_n (lv' := [(1, .int r3), (0, .ref (A 0 3 o)), (2, .int x7_2)]) hx hb dX4_say_31 rfl hl (by decide) rfl (fun ls hl => ?_)
        refine lv_iload_n hx hb dX4_say_32 rfl (lv_at hl 0 rfl) ?_
        refine lv_iconst (v := (-1 : Int32)) hx hb dX4_say_33 (by decide) ?_
        refine lv_icmp_ne (tgt := 39) hx hb dX4_say_34 (by decide) (fun q4 => ?_) (fun q4 => ?_)
        · rw [if_neg q4] at hf
          refine lv_aload_n hx hb dX4_say_39 rfl (lv_at hl 1 rfl) ?_
          refine gf_X4_marks hx hb hts hown hW (kS_in ho) iX4 (List.mem_of_getElem? (i := 4) rfl) dX4_say_40 ?_
          refine lv_iload_n hx hb dX4_say_43 rfl (lv_at hl 2 rfl) ?_
          obtain ⟨σ5, hf5, hf⟩ := ss_bind hf
          refine rv_v S (c_X2_readOnce l hAD (Nat.lt_of_lt_of_le ho (by decide)) hf5) (cwV 1 hts gX4_say_X2_readOnce rfl rfl rfl hd_X2_readOnce ⟨(Nat.le_of_ble_eq_true rfl), (Nat.le_of_ble_eq_true rfl)⟩) hW (kS_in (Nat.lt_of_lt_of_le ho (by decide))) rfl rfl rfl hl.1 (Nat.le_of_ble_eq_true rfl) ⟨Nat.zero_le _, Nat.zero_le _⟩ dX4_say_44 (fun H locs hW => ?_)
          refine lv_iinc (v := (x7_2 + (1 : Int32))) (lv' := [(2, .int (x7_2 + (1 : Int32))), (1, .int r3), (0, .ref (A 0 3 o))]) hx hb dX4_say_47 hl (k := 2) rfl rfl (by decide) rfl (fun ls hl => ?_)
          refine lv_goto (tgt := 7) hx hb dX4_say_50 (by decide) ?_
          exact ih7 r3 (x7_2 + (1 : Int32)) σ5 _ _ _ hW (lv_sub hl [2, 1, 0] rfl) hf
        · rw [if_pos q4] at hf
          refine lv_iload_n hx hb dX4_say_37 rfl (lv_at hl 2 rfl) ?_
          exact re_i hx hb hr hlocks hW (Option.some.inj hf) dX4_say_38
  exact L7 FU (sG σ 3 o) (0 : Int32) σ _ _ _ hW (lv_sub hl [2, 1, 0] rfl) hf
def f_X4_stuckAt_j36 (x5_4 : Int32) (kb5 : Int32 → Int32 → ss_M → Option (Int32 × ss_M)) (x36_3 : Int32) (σ36_ : ss_M) : Option (Int32 × ss_M) :=
  if x36_3 = (-1 : Int32) then (some (x5_4, σ36_)) else (kb5 x36_3 (x5_4 + (1 : Int32)) σ36_)
def f_X4_stuckAt_L5 (o : Nat) (p0 : Int32) (p1 : Int32) : Nat → Int32 → Int32 → ss_M → Option (Int32 × ss_M)
  | 0, _, _, _ => none
  | n5 + 1, x5_3, x5_4, σ5_ => if (sG σ5_ 5 o) ≤ x5_4 then (some ((-1 : Int32), σ5_)) else (if x5_4 = p1 then (f_X4_stuckAt_j36 x5_4 (f_X4_stuckAt_L5 o p0 p1 n5) x5_3 σ5_) else (if gd x5_4 12 = true then (ss_bd (f_X4_leftBehind o x5_4 (sA σ5_ 4 o (x5_4).toNatClampNeg) x5_3 p0 σ5_) (fun r5 σ5 => f_X4_stuckAt_j36 x5_4 (f_X4_stuckAt_L5 o p0 p1 n5) r5 σ5)) else none))
def f_X4_stuckAt (o : Nat) (p0 : Int32) (p1 : Int32) (σ : ss_M) : Option (Int32 × ss_M) :=
  f_X4_stuckAt_L5 o p0 p1 FU p0 (0 : Int32) σ
def rm_X4_stuckAt : Room := { frames := 6, cells := 0, slots := 0, locals := 300 }
theorem hd_X4_stuckAt : yX4_stuckAt.cls = RX4 ∧ yX4_stuckAt.cls ≠ "java/lang/invoke/MethodHandle" ∧ yX4_stuckAt.cls ≠ "java/lang/invoke/VarHandle" ∧ (parseMethodDescriptor yX4_stuckAt.desc).map (fun d => d.parameters.length) = some 2 := by decide +kernel
set_option maxHeartbeats 4000000 in
set_option maxRecDepth 100000 in
theorem c_X4_stuckAt (l : Launch) {D : va_G} {Y : Nat → ClassId} {A : ss_A} (hAD : AD 0 A) {o : Nat} {p0 : Int32} {p1 : Int32} (ho : o < 4) {r : Int32} {σ σ' : ss_M} (hf : f_X4_stuckAt o p0 p1 σ = some (r, σ')) : Met l yX4_stuckAt wsX4_stuckAt rm_X4_stuckAt (Pc0 0 D Y A σ [.ref (A 0 3 o), .int p0, .int p1]) (Qi0 0 D Y A r σ') 0 0 (FA 0 A) := by
  rw [f_X4_stuckAt] at hf
  refine Met0 (cc := cX4_stuckAt) (maxL := 5) (ret := (some .int)) (own := RX4) (by decide +kernel) rfl hAD rfl (Nat.le_of_ble_eq_true rfl) ?_
  intro p e s m args below meth c S hr hlocks hW ls hl
  obtain ⟨hx, hb, hml, hown, hts⟩ := id S
  have iX4 : ∀ q ∈ wsX40, q ∈ wsX4_stuckAt := fun q h => List.mem_cons_of_mem _ (List.mem_append_left _ (List.mem_append_right _ (h)))
  have hl : lv_has ls 5 [(0, .ref (A 0 3 o)), (1, .int p0), (2, .int p1)] := hl
  refine lv_iload_n hx hb dX4_stuckAt_0 rfl (lv_at hl 1 rfl) ?_
  refine lv_istore_n (lv' := [(3, .int p0), (0, .ref (A 0 3 o)), (1, .int p0), (2, .int p1)]) hx hb dX4_stuckAt_1 rfl hl (by decide) rfl (fun ls hl => ?_)
  refine lv_iconst (v := (0 : Int32)) hx hb dX4_stuckAt_2 (by decide) ?_
  refine lv_istore (lv' := [(4, .int (0 : Int32)), (3, .int p0), (0, .ref (A 0 3 o)), (1, .int p0), (2, .int p1)]) hx hb dX4_stuckAt_3 hl (by decide) rfl (fun ls hl => ?_)
  have L5 : ∀ (n5 : Nat), ∀ (x5_3 : Int32) (x5_4 : Int32) (σ5_ : ss_M) (H : Heap) (locs : List Loc) (ls : Array Slot), sW 0 D Y A σ5_ s s.heap H locs → lv_has ls 5 [(0, .ref (A 0 3 o)), (1, .int p0), (2, .int p1), (3, .int x5_3), (4, .int x5_4)] → f_X4_stuckAt_L5 o p0 p1 n5 x5_3 x5_4 σ5_ = some (r, σ') → W p l e rm_X4_stuckAt s m args below meth c H locs 0 0 (MQ below (Qi0 0 D Y A r σ') args s 0 0 (FA 0 A)) (F0 m 5 ls []) := by
    intro n5
    induction n5 with
    | zero =>
      intro x5_3 x5_4 σ5_ H locs ls hW hl hf
      rw [f_X4_stuckAt_L5] at hf
      cases hf
    | succ n5 ih5 =>
      intro x5_3 x5_4 σ5_ H locs ls hW hl hf
      rw [f_X4_stuckAt_L5] at hf
      refine lv_iload hx hb dX4_stuckAt_5 (lv_at hl 4 rfl) ?_
      refine lv_aload_n hx hb dX4_stuckAt_7 rfl (lv_at hl 0 rfl) ?_
      refine gf_X4_words hx hb hts hown hW (kS_in ho) iX4 (List.mem_of_getElem? (i := 1) rfl) dX4_stuckAt_8 ?_
      refine lv_icmp_ge (tgt := 50) hx hb dX4_stuckAt_11 (by decide) (fun q1 => ?_) (fun q1 => ?_)
      · rw [if_pos q1] at hf
        refine lv_iconst (v := (-1 : Int32)) hx hb dX4_stuckAt_50 (by decide) ?_
        exact re_i hx hb hr hlocks hW (Option.some.inj hf) dX4_stuckAt_51
      · rw [if_neg q1] at hf
        refine lv_iload hx hb dX4_stuckAt_14 (lv_at hl 4 rfl) ?_
        refine lv_iload_n hx hb dX4_stuckAt_16 rfl (lv_at hl 2 rfl) ?_
        have J36 : ∀ (x36_3 : Int32) (σ36_ : ss_M) (H : Heap) (locs : List Loc) (ls : Array Slot), sW 0 D Y A σ36_ s s.heap H locs → lv_has ls 5 [(0, .ref (A 0 3 o)), (1, .int p0), (2, .int p1), (3, .int x36_3), (4, .int x5_4)] → f_X4_stuckAt_j36 x5_4 (f_X4_stuckAt_L5 o p0 p1 n5) x36_3 σ36_ = some (r, σ') → W p l e rm_X4_stuckAt s m args below meth c H locs 0 0 (MQ below (Qi0 0 D Y A r σ') args s 0 0 (FA 0 A)) (F0 m 36 ls []) := by
          intro x36_3 σ36_ H locs ls hW hl hf
          rw [f_X4_stuckAt_j36] at hf
          refine lv_iload_n hx hb dX4_stuckAt_36 rfl (lv_at hl 3 rfl) ?_
          refine lv_iconst (v := (-1 : Int32)) hx hb dX4_stuckAt_37 (by decide) ?_
          refine lv_icmp_ne (tgt := 44) hx hb dX4_stuckAt_38 (by decide) (fun q2 => ?_) (fun q2 => ?_)
          · rw [if_neg q2] at hf
            refine lv_iinc (v := (x5_4 + (1 : Int32))) (lv' := [(4, .int (x5_4 + (1 : Int32))), (0, .ref (A 0 3 o)), (1, .int p0), (2, .int p1), (3, .int x36_3)]) hx hb dX4_stuckAt_44 hl (k := 4) rfl rfl (by decide) rfl (fun ls hl => ?_)
            refine lv_goto (tgt := 5) hx hb dX4_stuckAt_47 (by decide) ?_
            exact ih5 x36_3 (x5_4 + (1 : Int32)) σ36_ _ _ _ hW (lv_sub hl [1, 2, 3, 4, 0] rfl) hf
          · rw [if_pos q2] at hf
            refine lv_iload hx hb dX4_stuckAt_41 (lv_at hl 4 rfl) ?_
            exact re_i hx hb hr hlocks hW (Option.some.inj hf) dX4_stuckAt_43
        refine lv_icmp_eq (tgt := 36) hx hb dX4_stuckAt_17 (by decide) (fun q3 => ?_) (fun q3 => ?_)
        · rw [if_pos q3] at hf
          exact J36 x5_3 σ5_ _ _ _ hW (lv_sub hl [0, 1, 2, 3, 4] rfl) hf
        · rw [if_neg q3] at hf
          refine lv_aload_n hx hb dX4_stuckAt_20 rfl (lv_at hl 0 rfl) ?_
          refine lv_iload hx hb dX4_stuckAt_21 (lv_at hl 4 rfl) ?_
          refine lv_aload_n hx hb dX4_stuckAt_23 rfl (lv_at hl 0 rfl) ?_
          refine gf_X4_lengths hx hb hts hown hW (kS_in ho) iX4 (List.mem_of_getElem? (i := 2) rfl) dX4_stuckAt_24 ?_
          refine lv_iload hx hb dX4_stuckAt_27 (lv_at hl 4 rfl) ?_
          obtain ⟨g4, hf⟩ := ss_if hf
          refine ra_i hx hb hW (kS_in ho) g4 dX4_stuckAt_29 ?_
          refine lv_iload_n hx hb dX4_stuckAt_30 rfl (lv_at hl 3 rfl) ?_
          refine lv_iload_n hx hb dX4_stuckAt_31 rfl (lv_at hl 1 rfl) ?_
          obtain ⟨r5, σ5, hf5, hf⟩ := ss_bd_some hf
          refine rv_i S (c_X4_leftBehind l hAD ho hf5) (cwV 4 hts gX4_stuckAt_X4_leftBehind rfl rfl rfl hd_X4_leftBehind ⟨(Nat.le_of_ble_eq_true rfl), (Nat.le_of_ble_eq_true rfl)⟩) hW (kS_in ho) rfl rfl rfl hl.1 (Nat.le_of_ble_eq_true rfl) ⟨Nat.zero_le _, Nat.zero_le _⟩ dX4_stuckAt_32 (fun H locs hW => ?_)
          refine lv_istore_n (lv' := [(3, .int r5), (0, .ref (A 0 3 o)), (1, .int p0), (2, .int p1), (4, .int x5_4)]) hx hb dX4_stuckAt_35 rfl hl (by decide) rfl (fun ls hl => ?_)
          exact J36 r5 σ5 _ _ _ hW (lv_sub hl [1, 2, 3, 0, 4] rfl) hf
  exact L5 FU p0 (0 : Int32) σ _ _ _ hW (lv_sub hl [2, 3, 4, 1, 0] rfl) hf
def f_X4_breathsStuckAt_j26 (x4_3 : Int32) (kb4 : Int32 → Int32 → ss_M → Option (Int32 × ss_M)) (x26_2 : Int32) (σ26_ : ss_M) : Option (Int32 × ss_M) :=
  kb4 x26_2 (x4_3 + (1 : Int32)) σ26_
def f_X4_breathsStuckAt_L4 (o : Nat) (p0 : Int32) : Nat → Int32 → Int32 → ss_M → Option (Int32 × ss_M)
  | 0, _, _, _ => none
  | n4 + 1, x4_2, x4_3, σ4_ => if (30 : Int32) < x4_3 then (some (x4_2, σ4_)) else (ss_bd (f_X4_stuckAt o x4_3 (-1 : Int32) σ4_) (fun r2 σ2 => if r2 = p0 then (f_X4_breathsStuckAt_j26 x4_3 (f_X4_breathsStuckAt_L4 o p0 n4) (x4_2 ||| ((1 : Int32) <<< (x4_3 &&& (31 : Int32)))) σ2) else (f_X4_breathsStuckAt_j26 x4_3 (f_X4_breathsStuckAt_L4 o p0 n4) x4_2 σ2)))
def f_X4_breathsStuckAt (o : Nat) (p0 : Int32) (σ : ss_M) : Option (Int32 × ss_M) :=
  f_X4_breathsStuckAt_L4 o p0 FU (0 : Int32) (1 : Int32) σ
def rm_X4_breathsStuckAt : Room := { frames := 8, cells := 0, slots := 0, locals := 400 }
theorem hd_X4_breathsStuckAt : yX4_breathsStuckAt.cls = RX4 ∧ yX4_breathsStuckAt.cls ≠ "java/lang/invoke/MethodHandle" ∧ yX4_breathsStuckAt.cls ≠ "java/lang/invoke/VarHandle" ∧ (parseMethodDescriptor yX4_breathsStuckAt.desc).map (fun d => d.parameters.length) = some 1 := by decide +kernel
set_option maxHeartbeats 4000000 in
set_option maxRecDepth 100000 in
theorem c_X4_breathsStuckAt (l : Launch) {D : va_G} {Y : Nat → ClassId} {A : ss_A} (hAD : AD 0 A) {o : Nat} {p0 : Int32} (ho : o < 4) {r : Int32} {σ σ' : ss_M} (hf : f_X4_breathsStuckAt o p0 σ = some (r, σ')) : Met l yX4_breathsStuckAt wsX4_breathsStuckAt rm_X4_breathsStuckAt (Pc0 0 D Y A σ [.ref (A 0 3 o), .int p0]) (Qi0 0 D Y A r σ') 0 0 (FA 0 A) := by
  rw [f_X4_breathsStuckAt] at hf
  refine Met0 (cc := cX4_breathsStuckAt) (maxL := 4) (ret := (some .int)) (own := RX4) (by decide +kernel) rfl hAD rfl (Nat.le_of_ble_eq_true rfl) ?_
  intro p e s m args below meth c S hr hlocks hW ls hl
  obtain ⟨hx, hb, hml, hown, hts⟩ := id S
  have hl : lv_has ls 4 [(0, .ref (A 0 3 o)), (1, .int p0)] := hl
  refine lv_iconst (v := (0 : Int32)) hx hb dX4_breathsStuckAt_0 (by decide) ?_
  refine lv_istore_n (lv' := [(2, .int (0 : Int32)), (0, .ref (A 0 3 o)), (1, .int p0)]) hx hb dX4_breathsStuckAt_1 rfl hl (by decide) rfl (fun ls hl => ?_)
  refine lv_iconst (v := (1 : Int32)) hx hb dX4_breathsStuckAt_2 (by decide) ?_
  refine lv_istore_n (lv' := [(3, .int (1 : Int32)), (2, .int (0 : Int32)), (0, .ref (A 0 3 o)), (1, .int p0)]) hx hb dX4_breathsStuckAt_3 rfl hl (by decide) rfl (fun ls hl => ?_)
  have L4 : ∀ (n4 : Nat), ∀ (x4_2 : Int32) (x4_3 : Int32) (σ4_ : ss_M) (H : Heap) (locs : List Loc) (ls : Array Slot), sW 0 D Y A σ4_ s s.heap H locs → lv_has ls 4 [(0, .ref (A 0 3 o)), (1, .int p0), (2, .int x4_2), (3, .int x4_3)] → f_X4_breathsStuckAt_L4 o p0 n4 x4_2 x4_3 σ4_ = some (r, σ') → W p l e rm_X4_breathsStuckAt s m args below meth c H locs 0 0 (MQ below (Qi0 0 D Y A r σ') args s 0 0 (FA 0 A)) (F0 m 4 ls []) := by
    intro n4
    induction n4 with
    | zero =>
      intro x4_2 x4_3 σ4_ H locs ls hW hl hf
      rw [f_X4_breathsStuckAt_L4] at hf
      cases hf
    | succ n4 ih4 =>
      intro x4_2 x4_3 σ4_ H locs ls hW hl hf
      rw [f_X4_breathsStuckAt_L4] at hf
      refine lv_iload_n hx hb dX4_breathsStuckAt_4 rfl (lv_at hl 3 rfl) ?_
      refine lv_bipush (v := (30 : Int32)) hx hb dX4_breathsStuckAt_5 (by decide) ?_
      refine lv_icmp_gt (tgt := 32) hx hb dX4_breathsStuckAt_7 (by decide) (fun q1 => ?_) (fun q1 => ?_)
      · rw [if_pos q1] at hf
        refine lv_iload_n hx hb dX4_breathsStuckAt_32 rfl (lv_at hl 2 rfl) ?_
        exact re_i hx hb hr hlocks hW (Option.some.inj hf) dX4_breathsStuckAt_33
      · rw [if_neg q1] at hf
        refine lv_aload_n hx hb dX4_breathsStuckAt_10 rfl (lv_at hl 0 rfl) ?_
        refine lv_iload_n hx hb dX4_breathsStuckAt_11 rfl (lv_at hl 3 rfl) ?_
        refine lv_iconst (v := (-1 : Int32)) hx hb dX4_breathsStuckAt_12 (by decide) ?_
        obtain ⟨r2, σ2, hf2, hf⟩ := ss_bd_some hf
        refine rv_i S (c_X4_stuckAt l hAD ho hf2) (cwV 2 hts gX4_breathsStuckAt_X4_stuckAt rfl rfl rfl hd_X4_stuckAt ⟨(Nat.le_of_ble_eq_true rfl), (Nat.le_of_ble_eq_true rfl)⟩) hW (kS_in ho) rfl rfl rfl hl.1 (Nat.le_of_ble_eq_true rfl) ⟨Nat.zero_le _, Nat.zero_le _⟩ dX4_breathsStuckAt_13 (fun H locs hW => ?_)
        refine lv_iload_n hx hb dX4_breathsStuckAt_16 rfl (lv_at hl 1 rfl) ?_
        have J26 : ∀ (x26_2 : Int32) (σ26_ : ss_M) (H : Heap) (locs : List Loc) (ls : Array Slot), sW 0 D Y A σ26_ s s.heap H locs → lv_has ls 4 [(0, .ref (A 0 3 o)), (1, .int p0), (2, .int x26_2), (3, .int x4_3)] → f_X4_breathsStuckAt_j26 x4_3 (f_X4_breathsStuckAt_L4 o p0 n4) x26_2 σ26_ = some (r, σ') → W p l e rm_X4_breathsStuckAt s m args below meth c H locs 0 0 (MQ below (Qi0 0 D Y A r σ') args s 0 0 (FA 0 A)) (F0 m 26 ls []) := by
          intro x26_2 σ26_ H locs ls hW hl hf
          rw [f_X4_breathsStuckAt_j26] at hf
          refine lv_iinc (v := (x4_3 + (1 : Int32))) (lv' := [(3, .int (x4_3 + (1 : Int32))), (0, .ref (A 0 3 o)), (1, .int p0), (2, .int x26_2)]) hx hb dX4_breathsStuckAt_26 hl (k := 3) rfl rfl (by decide) rfl (fun ls hl => ?_)
          refine lv_goto (tgt := 4) hx hb dX4_breathsStuckAt_29 (by decide) ?_
          exact ih4 x26_2 (x4_3 + (1 : Int32)) σ26_ _ _ _ hW (lv_sub hl [1, 2, 3, 0] rfl) hf
        refine lv_icmp_ne (tgt := 26) hx hb dX4_breathsStuckAt_17 (by decide) (fun q3 => ?_) (fun q3 => ?_)
        · rw [if_neg q3] at hf
          exact J26 x4_2 σ2 _ _ _ hW (lv_sub hl [0, 1, 2, 3] rfl) hf
        · rw [if_pos q3] at hf
          refine lv_iload_n hx hb dX4_breathsStuckAt_20 rfl (lv_at hl 2 rfl) ?_
          refine lv_iconst (v := (1 : Int32)) hx hb dX4_breathsStuckAt_21 (by decide) ?_
          refine lv_iload_n hx hb dX4_breathsStuckAt_22 rfl (lv_at hl 3 rfl) ?_
          refine lv_ishl hx hb dX4_breathsStuckAt_23 ?_
          refine lv_ior hx hb dX4_breathsStuckAt_24 ?_
          refine lv_istore_n (lv' := [(2, .int (x4_2 ||| ((1 : Int32) <<< (x4_3 &&& (31 : Int32))))), (0, .ref (A 0 3 o)), (1, .int p0), (3, .int x4_3)]) hx hb dX4_breathsStuckAt_25 rfl hl (by decide) rfl (fun ls hl => ?_)
          exact J26 (x4_2 ||| ((1 : Int32) <<< (x4_3 &&& (31 : Int32)))) σ2 _ _ _ hW (lv_sub hl [1, 2, 0, 3] rfl) hf
  exact L4 FU (0 : Int32) (1 : Int32) σ _ _ _ hW (lv_sub hl [2, 3, 1, 0] rfl) hf
def f_X4_addHeard (o : Nat) (p0 : Int32) (σ : ss_M) : Option ss_M :=
  if gd (sG σ 6 o) 6 = true then (ss_let (sGu (sAu σ 5 o (upd (sA σ 5 o) ((sG σ 6 o)).toNatClampNeg p0)) 6 o ((sG (sAu σ 5 o (upd (sA σ 5 o) ((sG σ 6 o)).toNatClampNeg p0)) 6 o) + (1 : Int32))) (fun σm2 => some σm2)) else none
def rm_X4_addHeard : Room := { frames := 0, cells := 0, slots := 0, locals := 0 }
theorem hd_X4_addHeard : yX4_addHeard.cls = RX4 ∧ yX4_addHeard.cls ≠ "java/lang/invoke/MethodHandle" ∧ yX4_addHeard.cls ≠ "java/lang/invoke/VarHandle" ∧ (parseMethodDescriptor yX4_addHeard.desc).map (fun d => d.parameters.length) = some 1 := by decide +kernel
set_option maxHeartbeats 4000000 in
set_option maxRecDepth 100000 in
theorem c_X4_addHeard (l : Launch) {D : va_G} {Y : Nat → ClassId} {A : ss_A} (hAD : AD 0 A) {o : Nat} {p0 : Int32} (ho : o < 4) {σ σ' : ss_M} (hf : f_X4_addHeard o p0 σ = some σ') : Met l yX4_addHeard wsX4_addHeard rm_X4_addHeard (Pc0 0 D Y A σ [.ref (A 0 3 o), .int p0]) (Qv0 0 D Y A σ') 0 0 (FA 0 A) := by
  rw [f_X4_addHeard] at hf
  refine Met0 (cc := cX4_addHeard) (maxL := 2) (ret := none) (own := RX4) (by decide +kernel) rfl hAD rfl (Nat.le_of_ble_eq_true rfl) ?_
  intro p e s m args below meth c S hr hlocks hW ls hl
  obtain ⟨hx, hb, hml, hown, hts⟩ := id S
  have iX4 : ∀ q ∈ wsX40, q ∈ wsX4_addHeard := fun q h => List.mem_cons_of_mem _ (List.mem_append_right _ (h))
  have hl : lv_has ls 2 [(0, .ref (A 0 3 o)), (1, .int p0)] := hl
  refine lv_aload_n hx hb dX4_addHeard_0 rfl (lv_at hl 0 rfl) ?_
  refine gf_X4_heard hx hb hts hown hW (kS_in ho) iX4 (List.mem_of_getElem? (i := 1) rfl) dX4_addHeard_1 ?_
  refine lv_aload_n hx hb dX4_addHeard_4 rfl (lv_at hl 0 rfl) ?_
  refine gf_X4_heards hx hb hts hown hW (kS_in ho) iX4 (List.mem_of_getElem? (i := 2) rfl) dX4_addHeard_5 ?_
  refine lv_iload_n hx hb dX4_addHeard_8 rfl (lv_at hl 1 rfl) ?_
  obtain ⟨g1, hf⟩ := ss_if hf
  refine rs_i hx hb hW (kS_in ho) g1 dX4_addHeard_9 (fun H locs hW => ?_)
  refine lv_aload_n hx hb dX4_addHeard_10 rfl (lv_at hl 0 rfl) ?_
  refine lv_dup hx hb dX4_addHeard_11 rfl ?_
  refine gf_X4_heards hx hb hts hown hW (kS_in ho) iX4 (List.mem_of_getElem? (i := 2) rfl) dX4_addHeard_12 ?_
  refine lv_iconst (v := (1 : Int32)) hx hb dX4_addHeard_15 (by decide) ?_
  refine lv_iadd hx hb dX4_addHeard_16 ?_
  refine pf_X4_heards hx hb hts hown hW (kS_in ho) iX4 (List.mem_of_getElem? (i := 2) rfl) dX4_addHeard_17 (fun H locs hW => ?_)
  obtain ⟨σm2, eσm2, hf⟩ := ss_let_some hf
  rw [← eσm2] at hW
  exact re_v hx hb hr hlocks hW (Option.some.inj hf) dX4_addHeard_20
def f_X4_breathsHeard_L5 (o : Nat) : Nat → Int32 → Int32 → ss_M → Option (Int32 × ss_M)
  | 0, _, _, _ => none
  | n5 + 1, x5_1, x5_2, σ5_ => if (sG σ5_ 6 o) ≤ x5_2 then (some (x5_1, σ5_)) else (if gd x5_2 6 = true then ((f_X4_breathsHeard_L5 o n5) (x5_1 &&& (sA σ5_ 5 o (x5_2).toNatClampNeg)) (x5_2 + (1 : Int32)) σ5_) else none)
def f_X4_breathsHeard (o : Nat) (σ : ss_M) : Option (Int32 × ss_M) :=
  f_X4_breathsHeard_L5 o FU (2147483646 : Int32) (0 : Int32) σ
def rm_X4_breathsHeard : Room := { frames := 0, cells := 0, slots := 0, locals := 0 }
theorem hd_X4_breathsHeard : yX4_breathsHeard.cls = RX4 ∧ yX4_breathsHeard.cls ≠ "java/lang/invoke/MethodHandle" ∧ yX4_breathsHeard.cls ≠ "java/lang/invoke/VarHandle" ∧ (parseMethodDescriptor yX4_breathsHeard.desc).map (fun d => d.parameters.length) = some 0 := by decide +kernel
set_option maxHeartbeats 4000000 in
set_option maxRecDepth 100000 in
theorem c_X4_breathsHeard (l : Launch) {D : va_G} {Y : Nat → ClassId} {A : ss_A} (hAD : AD 0 A) {o : Nat} (ho : o < 4) {r : Int32} {σ σ' : ss_M} (hf : f_X4_breathsHeard o σ = some (r, σ')) : Met l yX4_breathsHeard wsX4_breathsHeard rm_X4_breathsHeard (Pc0 0 D Y A σ [.ref (A 0 3 o)]) (Qi0 0 D Y A r σ') 0 0 (FA 0 A) := by
  rw [f_X4_breathsHeard] at hf
  refine Met0 (cc := cX4_breathsHeard) (maxL := 3) (ret := (some .int)) (own := RX4) (by decide +kernel) rfl hAD rfl (Nat.le_of_ble_eq_true rfl) ?_
  intro p e s m args below meth c S hr hlocks hW ls hl
  obtain ⟨hx, hb, hml, hown, hts⟩ := id S
  have iX4 : ∀ q ∈ wsX40, q ∈ wsX4_breathsHeard := fun q h => List.mem_cons_of_mem _ (List.mem_append_right _ (h))
  have hl : lv_has ls 3 [(0, .ref (A 0 3 o))] := hl
  refine lv_ldc hx hb hown (hts _ (List.mem_of_getElem? (i := 1) rfl)) dX4_breathsHeard_0 ?_
  refine lv_istore_n (lv' := [(1, .int (2147483646 : Int32)), (0, .ref (A 0 3 o))]) hx hb dX4_breathsHeard_2 rfl hl (by decide) rfl (fun ls hl => ?_)
  refine lv_iconst (v := (0 : Int32)) hx hb dX4_breathsHeard_3 (by decide) ?_
  refine lv_istore_n (lv' := [(2, .int (0 : Int32)), (1, .int (2147483646 : Int32)), (0, .ref (A 0 3 o))]) hx hb dX4_breathsHeard_4 rfl hl (by decide) rfl (fun ls hl => ?_)
  have L5 : ∀ (n5 : Nat), ∀ (x5_1 : Int32) (x5_2 : Int32) (σ5_ : ss_M) (H : Heap) (locs : List Loc) (ls : Array Slot), sW 0 D Y A σ5_ s s.heap H locs → lv_has ls 3 [(0, .ref (A 0 3 o)), (1, .int x5_1), (2, .int x5_2)] → f_X4_breathsHeard_L5 o n5 x5_1 x5_2 σ5_ = some (r, σ') → W p l e rm_X4_breathsHeard s m args below meth c H locs 0 0 (MQ below (Qi0 0 D Y A r σ') args s 0 0 (FA 0 A)) (F0 m 5 ls []) := by
    intro n5
    induction n5 with
    | zero =>
      intro x5_1 x5_2 σ5_ H locs ls hW hl hf
      rw [f_X4_breathsHeard_L5] at hf
      cases hf
    | succ n5 ih5 =>
      intro x5_1 x5_2 σ5_ H locs ls hW hl hf
      rw [f_X4_breathsHeard_L5] at hf
      refine lv_iload_n hx hb dX4_breathsHeard_5 rfl (lv_at hl 2 rfl) ?_
      refine lv_aload_n hx hb dX4_breathsHeard_6 rfl (lv_at hl 0 rfl) ?_
      refine gf_X4_heards hx hb hts hown hW (kS_in ho) iX4 (List.mem_of_getElem? (i := 2) rfl) dX4_breathsHeard_7 ?_
      refine lv_icmp_ge (tgt := 28) hx hb dX4_breathsHeard_10 (by decide) (fun q1 => ?_) (fun q1 => ?_)
      · rw [if_pos q1] at hf
        refine lv_iload_n hx hb dX4_breathsHeard_28 rfl (lv_at hl 1 rfl) ?_
        exact re_i hx hb hr hlocks hW (Option.some.inj hf) dX4_breathsHeard_29
      · rw [if_neg q1] at hf
        refine lv_iload_n hx hb dX4_breathsHeard_13 rfl (lv_at hl 1 rfl) ?_
        refine lv_aload_n hx hb dX4_breathsHeard_14 rfl (lv_at hl 0 rfl) ?_
        refine gf_X4_heard hx hb hts hown hW (kS_in ho) iX4 (List.mem_of_getElem? (i := 3) rfl) dX4_breathsHeard_15 ?_
        refine lv_iload_n hx hb dX4_breathsHeard_18 rfl (lv_at hl 2 rfl) ?_
        obtain ⟨g2, hf⟩ := ss_if hf
        refine ra_i hx hb hW (kS_in ho) g2 dX4_breathsHeard_19 ?_
        refine lv_iand hx hb dX4_breathsHeard_20 ?_
        refine lv_istore_n (lv' := [(1, .int (x5_1 &&& (sA σ5_ 5 o (x5_2).toNatClampNeg))), (0, .ref (A 0 3 o)), (2, .int x5_2)]) hx hb dX4_breathsHeard_21 rfl hl (by decide) rfl (fun ls hl => ?_)
        refine lv_iinc (v := (x5_2 + (1 : Int32))) (lv' := [(2, .int (x5_2 + (1 : Int32))), (1, .int (x5_1 &&& (sA σ5_ 5 o (x5_2).toNatClampNeg))), (0, .ref (A 0 3 o))]) hx hb dX4_breathsHeard_22 hl (k := 2) rfl rfl (by decide) rfl (fun ls hl => ?_)
        refine lv_goto (tgt := 5) hx hb dX4_breathsHeard_25 (by decide) ?_
        exact ih5 (x5_1 &&& (sA σ5_ 5 o (x5_2).toNatClampNeg)) (x5_2 + (1 : Int32)) σ5_ _ _ _ hW (lv_sub hl [2, 1, 0] rfl) hf
  exact L5 FU (2147483646 : Int32) (0 : Int32) σ _ _ _ hW (lv_sub hl [2, 1, 0] rfl) hf
def f_X4_lastIsEnded (o : Nat) (σ : ss_M) : Option (Int32 × ss_M) :=
  if (sG σ 5 o) ≤ (0 : Int32) then (some ((0 : Int32), σ)) else (if gd ((sG σ 5 o) - (1 : Int32)) 12 = true then (ss_bd (f_X1_ends (sA σ 0 o (((sG σ 5 o) - (1 : Int32))).toNatClampNeg) σ) (fun r3 σ3 => if r3 = (0 : Int32) then (some ((0 : Int32), σ3)) else (some ((1 : Int32), σ3)))) else none)
def rm_X4_lastIsEnded : Room := { frames := 2, cells := 0, slots := 0, locals := 100 }
theorem hd_X4_lastIsEnded : yX4_lastIsEnded.cls = RX4 ∧ yX4_lastIsEnded.cls ≠ "java/lang/invoke/MethodHandle" ∧ yX4_lastIsEnded.cls ≠ "java/lang/invoke/VarHandle" ∧ (parseMethodDescriptor yX4_lastIsEnded.desc).map (fun d => d.parameters.length) = some 0 := by decide +kernel
set_option maxHeartbeats 4000000 in
set_option maxRecDepth 100000 in
theorem c_X4_lastIsEnded (l : Launch) {D : va_G} {Y : Nat → ClassId} {A : ss_A} (hAD : AD 0 A) {o : Nat} (ho : o < 4) {r : Int32} {σ σ' : ss_M} (hf : f_X4_lastIsEnded o σ = some (r, σ')) : Met l yX4_lastIsEnded wsX4_lastIsEnded rm_X4_lastIsEnded (Pc0 0 D Y A σ [.ref (A 0 3 o)]) (Qi0 0 D Y A r σ') 0 0 (FA 0 A) := by
  rw [f_X4_lastIsEnded] at hf
  refine Met0 (cc := cX4_lastIsEnded) (maxL := 1) (ret := (some .boolean)) (own := RX4) (by decide +kernel) rfl hAD rfl (Nat.le_of_ble_eq_true rfl) ?_
  intro p e s m args below meth c S hr hlocks hW ls hl
  obtain ⟨hx, hb, hml, hown, hts⟩ := id S
  have iX4 : ∀ q ∈ wsX40, q ∈ wsX4_lastIsEnded := fun q h => List.mem_cons_of_mem _ (List.mem_append_left _ (List.mem_append_right _ (h)))
  have iX2 : ∀ q ∈ wsX20, q ∈ wsX4_lastIsEnded := fun q h => List.mem_cons_of_mem _ (List.mem_append_right _ (h))
  have hl : lv_has ls 1 [(0, .ref (A 0 3 o))] := hl
  refine lv_aload_n hx hb dX4_lastIsEnded_0 rfl (lv_at hl 0 rfl) ?_
  refine gf_X4_words hx hb hts hown hW (kS_in ho) iX4 (List.mem_of_getElem? (i := 1) rfl) dX4_lastIsEnded_1 ?_
  refine lv_if_le (tgt := 31) hx hb dX4_lastIsEnded_4 (by decide) (fun q1 => ?_) (fun q1 => ?_)
  · rw [if_pos q1] at hf
    refine lv_iconst (v := (0 : Int32)) hx hb dX4_lastIsEnded_31 (by decide) ?_
    exact re_z hx hb hr hlocks hW (by decide) (Option.some.inj hf) dX4_lastIsEnded_32
  · rw [if_neg q1] at hf
    refine lv_aload_n hx hb dX4_lastIsEnded_7 rfl (lv_at hl 0 rfl) ?_
    refine gf_X4_marks hx hb hts hown hW (kS_in ho) iX4 (List.mem_of_getElem? (i := 2) rfl) dX4_lastIsEnded_8 ?_
    refine gf_X2_kinds hx hb hts hown hW (kS_in (Nat.lt_of_lt_of_le ho (by decide))) iX2 (List.mem_of_getElem? (i := 3) rfl) dX4_lastIsEnded_11 ?_
    refine lv_aload_n hx hb dX4_lastIsEnded_14 rfl (lv_at hl 0 rfl) ?_
    refine gf_X4_words hx hb hts hown hW (kS_in ho) iX4 (List.mem_of_getElem? (i := 1) rfl) dX4_lastIsEnded_15 ?_
    refine lv_iconst (v := (1 : Int32)) hx hb dX4_lastIsEnded_18 (by decide) ?_
    refine lv_isub hx hb dX4_lastIsEnded_19 ?_
    obtain ⟨g2, hf⟩ := ss_if hf
    refine ra_i hx hb hW (kS_in (Nat.lt_of_lt_of_le ho (by decide))) g2 dX4_lastIsEnded_20 ?_
    obtain ⟨r3, σ3, hf3, hf⟩ := ss_bd_some hf
    refine rt_i S (c_X1_ends l hAD  hf3) (va_cwS 1 hts gX4_lastIsEnded_X1_ends rfl rfl rfl hd_X1_ends ⟨(Nat.le_of_ble_eq_true rfl), (Nat.le_of_ble_eq_true rfl)⟩) hW rfl rfl hl.1 (Nat.le_of_ble_eq_true rfl) ⟨Nat.zero_le _, Nat.zero_le _⟩ dX4_lastIsEnded_21 (fun H locs hW => ?_)
    refine lv_if_eq (tgt := 31) hx hb dX4_lastIsEnded_24 (by decide) (fun q4 => ?_) (fun q4 => ?_)
    · rw [if_pos q4] at hf
      refine lv_iconst (v := (0 : Int32)) hx hb dX4_lastIsEnded_31 (by decide) ?_
      exact re_z hx hb hr hlocks hW (by decide) (Option.some.inj hf) dX4_lastIsEnded_32
    · rw [if_neg q4] at hf
      refine lv_iconst (v := (1 : Int32)) hx hb dX4_lastIsEnded_27 (by decide) ?_
      refine lv_goto (tgt := 32) hx hb dX4_lastIsEnded_28 (by decide) ?_
      exact re_z hx hb hr hlocks hW (by decide) (Option.some.inj hf) dX4_lastIsEnded_32
def f_X4_howManySentences_j50 (x36_1 : Int32) (σ50_ : ss_M) : Option (Int32 × ss_M) :=
  some (x36_1, σ50_)
def f_X4_howManySentences_j36 (o : Nat) (x36_1 : Int32) (σ36_ : ss_M) : Option (Int32 × ss_M) :=
  if (sG σ36_ 5 o) = (0 : Int32) then (f_X4_howManySentences_j50 x36_1 σ36_) else (ss_bd (f_X4_lastIsEnded o σ36_) (fun r2 σ2 => if r2 = (0 : Int32) then (some ((x36_1 + (1 : Int32)), σ2)) else (f_X4_howManySentences_j50 x36_1 σ2)))
def f_X4_howManySentences_j30 (x4_2 : Int32) (kb4 : Int32 → Int32 → ss_M → Option (Int32 × ss_M)) (x30_1 : Int32) (σ30_ : ss_M) : Option (Int32 × ss_M) :=
  kb4 x30_1 (x4_2 + (1 : Int32)) σ30_
def f_X4_howManySentences_L4 (o : Nat) (k4_36 : Int32 → ss_M → Option (Int32 × ss_M)) : Nat → Int32 → Int32 → ss_M → Option (Int32 × ss_M)
  | 0, _, _, _ => none
  | n4 + 1, x4_1, x4_2, σ4_ => if (sG σ4_ 5 o) ≤ x4_2 then (k4_36 x4_1 σ4_) else (if gd x4_2 12 = true then (ss_bd (f_X1_ends (sA σ4_ 0 o (x4_2).toNatClampNeg) σ4_) (fun r6 σ6 => if r6 = (0 : Int32) then (f_X4_howManySentences_j30 x4_2 (f_X4_howManySentences_L4 o k4_36 n4) x4_1 σ6) else (f_X4_howManySentences_j30 x4_2 (f_X4_howManySentences_L4 o k4_36 n4) (x4_1 + (1 : Int32)) σ6))) else none)
def f_X4_howManySentences (o : Nat) (σ : ss_M) : Option (Int32 × ss_M) :=
  f_X4_howManySentences_L4 o (f_X4_howManySentences_j36 o) FU (0 : Int32) (0 : Int32) σ
def rm_X4_howManySentences : Room := { frames := 4, cells := 0, slots := 0, locals := 200 }
theorem hd_X4_howManySentences : yX4_howManySentences.cls = RX4 ∧ yX4_howManySentences.cls ≠ "java/lang/invoke/MethodHandle" ∧ yX4_howManySentences.cls ≠ "java/lang/invoke/VarHandle" ∧ (parseMethodDescriptor yX4_howManySentences.desc).map (fun d => d.parameters.length) = some 0 := by decide +kernel
set_option maxHeartbeats 4000000 in
set_option maxRecDepth 100000 in
theorem c_X4_howManySentences (l : Launch) {D : va_G} {Y : Nat → ClassId} {A : ss_A} (hAD : AD 0 A) {o : Nat} (ho : o < 4) {r : Int32} {σ σ' : ss_M} (hf : f_X4_howManySentences o σ = some (r, σ')) : Met l yX4_howManySentences wsX4_howManySentences rm_X4_howManySentences (Pc0 0 D Y A σ [.ref (A 0 3 o)]) (Qi0 0 D Y A r σ') 0 0 (FA 0 A) := by
  rw [f_X4_howManySentences] at hf
  refine Met0 (cc := cX4_howManySentences) (maxL := 3) (ret := (some .int)) (own := RX4) (by decide +kernel) rfl hAD rfl (Nat.le_of_ble_eq_true rfl) ?_
  intro p e s m args below meth c S hr hlocks hW ls hl
  obtain ⟨hx, hb, hml, hown, hts⟩ := id S
  have iX4 : ∀ q ∈ wsX40, q ∈ wsX4_howManySentences := fun q h => List.mem_cons_of_mem _ (List.mem_append_left _ (List.mem_append_right _ (h)))
  have iX2 : ∀ q ∈ wsX20, q ∈ wsX4_howManySentences := fun q h => List.mem_cons_of_mem _ (List.mem_append_right _ (h))
  have hl : lv_has ls 3 [(0, .ref (A 0 3 o))] := hl
  refine lv_iconst (v := (0 : Int32)) hx hb dX4_howManySentences_0 (by decide) ?_
  refine lv_istore_n (lv' := [(1, .int (0 : Int32)), (0, .ref (A 0 3 o))]) hx hb dX4_howManySentences_1 rfl hl (by decide) rfl (fun ls hl => ?_)
  refine lv_iconst (v := (0 : Int32)) hx hb dX4_howManySentences_2 (by decide) ?_
  refine lv_istore_n (lv' := [(2, .int (0 : Int32)), (1, .int (0 : Int32)), (0, .ref (A 0 3 o))]) hx hb dX4_howManySentences_3 rfl hl (by decide) rfl (fun ls hl => ?_)
  have J36 : ∀ (x36_1 : Int32) (σ36_ : ss_M) (H : Heap) (locs : List Loc) (ls : Array Slot), sW 0 D Y A σ36_ s s.heap H locs → lv_has ls 3 [(0, .ref (A 0 3 o)), (1, .int x36_1)] → f_X4_howManySentences_j36 o x36_1 σ36_ = some (r, σ') → W p l e rm_X4_howManySentences s m args below meth c H locs 0 0 (MQ below (Qi0 0 D Y A r σ') args s 0 0 (FA 0 A)) (F0 m 36 ls []) := by
    intro x36_1 σ36_ H locs ls hW hl hf
    rw [f_X4_howManySentences_j36] at hf
    refine lv_aload_n hx hb dX4_howManySentences_36 rfl (lv_at hl 0 rfl) ?_
    refine gf_X4_words hx hb hts hown hW (kS_in ho) iX4 (List.mem_of_getElem? (i := 1) rfl) dX4_howManySentences_37 ?_
    have J50 : ∀ (σ50_ : ss_M) (H : Heap) (locs : List Loc) (ls : Array Slot), sW 0 D Y A σ50_ s s.heap H locs → lv_has ls 3 [(1, .int x36_1)] → f_X4_howManySentences_j50 x36_1 σ50_ = some (r, σ') → W p l e rm_X4_howManySentences s m args below meth c H locs 0 0 (MQ below (Qi0 0 D Y A r σ') args s 0 0 (FA 0 A)) (F0 m 50 ls []) := by
      intro σ50_ H locs ls hW hl hf
      rw [f_X4_howManySentences_j50] at hf
      refine lv_iload_n hx hb dX4_howManySentences_50 rfl (lv_at hl 0 rfl) ?_
      refine lv_goto (tgt := 57) hx hb dX4_howManySentences_51 (by decide) ?_
      exact re_i hx hb hr hlocks hW (Option.some.inj hf) dX4_howManySentences_57
    refine lv_if_eq (tgt := 50) hx hb dX4_howManySentences_40 (by decide) (fun q1 => ?_) (fun q1 => ?_)
    · rw [if_pos q1] at hf
      exact J50 σ36_ _ _ _ hW (lv_sub hl [1] rfl) hf
    · rw [if_neg q1] at hf
      refine lv_aload_n hx hb dX4_howManySentences_43 rfl (lv_at hl 0 rfl) ?_
      obtain ⟨r2, σ2, hf2, hf⟩ := ss_bd_some hf
      refine rv_i S (c_X4_lastIsEnded l hAD ho hf2) (cwV 0 hts gX4_howManySentences_X4_lastIsEnded rfl rfl rfl hd_X4_lastIsEnded ⟨(Nat.le_of_ble_eq_true rfl), (Nat.le_of_ble_eq_true rfl)⟩) hW (kS_in ho) rfl rfl rfl hl.1 (Nat.le_of_ble_eq_true rfl) ⟨Nat.zero_le _, Nat.zero_le _⟩ dX4_howManySentences_44 (fun H locs hW => ?_)
      refine lv_if_eq (tgt := 54) hx hb dX4_howManySentences_47 (by decide) (fun q3 => ?_) (fun q3 => ?_)
      · rw [if_pos q3] at hf
        refine lv_iload_n hx hb dX4_howManySentences_54 rfl (lv_at hl 1 rfl) ?_
        refine lv_iconst (v := (1 : Int32)) hx hb dX4_howManySentences_55 (by decide) ?_
        refine lv_iadd hx hb dX4_howManySentences_56 ?_
        exact re_i hx hb hr hlocks hW (Option.some.inj hf) dX4_howManySentences_57
      · rw [if_neg q3] at hf
        exact J50 σ2 _ _ _ hW (lv_sub hl [1] rfl) hf
  have L4 : ∀ (n4 : Nat), ∀ (x4_1 : Int32) (x4_2 : Int32) (σ4_ : ss_M) (H : Heap) (locs : List Loc) (ls : Array Slot), sW 0 D Y A σ4_ s s.heap H locs → lv_has ls 3 [(0, .ref (A 0 3 o)), (1, .int x4_1), (2, .int x4_2)] → f_X4_howManySentences_L4 o (f_X4_howManySentences_j36 o) n4 x4_1 x4_2 σ4_ = some (r, σ') → W p l e rm_X4_howManySentences s m args below meth c H locs 0 0 (MQ below (Qi0 0 D Y A r σ') args s 0 0 (FA 0 A)) (F0 m 4 ls []) := by
    intro n4
    induction n4 with
    | zero =>
      intro x4_1 x4_2 σ4_ H locs ls hW hl hf
      rw [f_X4_howManySentences_L4] at hf
      cases hf
    | succ n4 ih4 =>
      intro x4_1 x4_2 σ4_ H locs ls hW hl hf
      rw [f_X4_howManySentences_L4] at hf
      refine lv_iload_n hx hb dX4_howManySentences_4 rfl (lv_at hl 2 rfl) ?_
      refine lv_aload_n hx hb dX4_howManySentences_5 rfl (lv_at hl 0 rfl) ?_
      refine gf_X4_words hx hb hts hown hW (kS_in ho) iX4 (List.mem_of_getElem? (i := 1) rfl) dX4_howManySentences_6 ?_
      refine lv_icmp_ge (tgt := 36) hx hb dX4_howManySentences_9 (by decide) (fun q4 => ?_) (fun q4 => ?_)
      · rw [if_pos q4] at hf
        exact J36 x4_1 σ4_ _ _ _ hW (lv_sub hl [0, 1] rfl) hf
      · rw [if_neg q4] at hf
        refine lv_aload_n hx hb dX4_howManySentences_12 rfl (lv_at hl 0 rfl) ?_
        refine gf_X4_marks hx hb hts hown hW (kS_in ho) iX4 (List.mem_of_getElem? (i := 2) rfl) dX4_howManySentences_13 ?_
        refine gf_X2_kinds hx hb hts hown hW (kS_in (Nat.lt_of_lt_of_le ho (by decide))) iX2 (List.mem_of_getElem? (i := 3) rfl) dX4_howManySentences_16 ?_
        refine lv_iload_n hx hb dX4_howManySentences_19 rfl (lv_at hl 2 rfl) ?_
        obtain ⟨g5, hf⟩ := ss_if hf
        refine ra_i hx hb hW (kS_in (Nat.lt_of_lt_of_le ho (by decide))) g5 dX4_howManySentences_20 ?_
        obtain ⟨r6, σ6, hf6, hf⟩ := ss_bd_some hf
        refine rt_i S (c_X1_ends l hAD  hf6) (va_cwS 1 hts gX4_howManySentences_X1_ends rfl rfl rfl hd_X1_ends ⟨(Nat.le_of_ble_eq_true rfl), (Nat.le_of_ble_eq_true rfl)⟩) hW rfl rfl hl.1 (Nat.le_of_ble_eq_true rfl) ⟨Nat.zero_le _, Nat.zero_le _⟩ dX4_howManySentences_21 (fun H locs hW => ?_)
        have J30 : ∀ (x30_1 : Int32) (σ30_ : ss_M) (H : Heap) (locs : List Loc) (ls : Array Slot), sW 0 D Y A σ30_ s s.heap H locs → lv_has ls 3 [(0, .ref (A 0 3 o)), (1, .int x30_1), (2, .int x4_2)] → f_X4_howManySentences_j30 x4_2 (f_X4_howManySentences_L4 o (f_X4_howManySentences_j36 o) n4) x30_1 σ30_ = some (r, σ') → W p l e rm_X4_howManySentences s m args below meth c H locs 0 0 (MQ below (Qi0 0 D Y A r σ') args s 0 0 (FA 0 A)) (F0 m 30 ls []) := by
          intro x30_1 σ30_ H locs ls hW hl hf
          rw [f_X4_howManySentences_j30] at hf
          refine lv_iinc (v := (x4_2 + (1 : Int32))) (lv' := [(2, .int (x4_2 + (1 : Int32))), (0, .ref (A 0 3 o)), (1, .int x30_1)]) hx hb dX4_howManySentences_30 hl (k := 2) rfl rfl (by decide) rfl (fun ls hl => ?_)
          refine lv_goto (tgt := 4) hx hb dX4_howManySentences_33 (by decide) ?_
          exact ih4 x30_1 (x4_2 + (1 : Int32)) σ30_ _ _ _ hW (lv_sub hl [1, 2, 0] rfl) hf
        refine lv_if_eq (tgt := 30) hx hb dX4_howManySentences_24 (by decide) (fun q7 => ?_) (fun q7 => ?_)
        · rw [if_pos q7] at hf
          exact J30 x4_1 σ6 _ _ _ hW (lv_sub hl [0, 1, 2] rfl) hf
        · rw [if_neg q7] at hf
          refine lv_iinc (v := (x4_1 + (1 : Int32))) (lv' := [(1, .int (x4_1 + (1 : Int32))), (0, .ref (A 0 3 o)), (2, .int x4_2)]) hx hb dX4_howManySentences_27 hl (k := 1) rfl rfl (by decide) rfl (fun ls hl => ?_)
          exact J30 (x4_1 + (1 : Int32)) σ6 _ _ _ hW (lv_sub hl [1, 0, 2] rfl) hf
  exact L4 FU (0 : Int32) (0 : Int32) σ _ _ _ hW (lv_sub hl [2, 1, 0] rfl) hf
def f_X4_longestSentence_j65 (p0 : Int32) (x65_2 : Int32) (x65_3 : Int32) (σ65_ : ss_M) : Option (Int32 × ss_M) :=
  if p0 = (0 : Int32) then (some (x65_2, σ65_)) else (some (x65_3, σ65_))
def f_X4_longestSentence_j59 (x13_6 : Int32) (kb13 : Int32 → Int32 → Int32 → Int32 → Int32 → ss_M → Option (Int32 × ss_M)) (x37_2 : Int32) (x37_3 : Int32) (x59_4 : Int32) (x59_5 : Int32) (σ59_ : ss_M) : Option (Int32 × ss_M) :=
  kb13 x37_2 x37_3 x59_4 x59_5 (x13_6 + (1 : Int32)) σ59_
def f_X4_longestSentence_j37 (o : Nat) (x13_4 : Int32) (x13_6 : Int32) (kb13 : Int32 → Int32 → Int32 → Int32 → Int32 → ss_M → Option (Int32 × ss_M)) (x37_2 : Int32) (x37_3 : Int32) (x37_5 : Int32) (σ37_ : ss_M) : Option (Int32 × ss_M) :=
  if gd x13_6 12 = true then (ss_bd (f_X1_ends (sA σ37_ 0 o (x13_6).toNatClampNeg) σ37_) (fun r4 σ4 => if r4 = (0 : Int32) then (f_X4_longestSentence_j59 x13_6 kb13 x37_2 x37_3 x13_4 x37_5 σ4) else (f_X4_longestSentence_j59 x13_6 kb13 x37_2 x37_3 (x13_4 + (1 : Int32)) (0 : Int32) σ4))) else none
def f_X4_longestSentence_L13 (o : Nat) (k13_65 : Int32 → Int32 → ss_M → Option (Int32 × ss_M)) : Nat → Int32 → Int32 → Int32 → Int32 → Int32 → ss_M → Option (Int32 × ss_M)
  | 0, _, _, _, _, _, _ => none
  | n13 + 1, x13_2, x13_3, x13_4, x13_5, x13_6, σ13_ => if (sG σ13_ 5 o) ≤ x13_6 then (k13_65 x13_2 x13_3 σ13_) else (if (x13_5 + (1 : Int32)) ≤ x13_2 then (f_X4_longestSentence_j37 o x13_4 x13_6 (f_X4_longestSentence_L13 o k13_65 n13) x13_2 x13_3 (x13_5 + (1 : Int32)) σ13_) else (f_X4_longestSentence_j37 o x13_4 x13_6 (f_X4_longestSentence_L13 o k13_65 n13) (x13_5 + (1 : Int32)) x13_4 (x13_5 + (1 : Int32)) σ13_))
def f_X4_longestSentence (o : Nat) (p0 : Int32) (σ : ss_M) : Option (Int32 × ss_M) :=
  f_X4_longestSentence_L13 o (f_X4_longestSentence_j65 p0) FU (0 : Int32) (-1 : Int32) (0 : Int32) (0 : Int32) (0 : Int32) σ
def rm_X4_longestSentence : Room := { frames := 2, cells := 0, slots := 0, locals := 100 }
theorem hd_X4_longestSentence : yX4_longestSentence.cls = RX4 ∧ yX4_longestSentence.cls ≠ "java/lang/invoke/MethodHandle" ∧ yX4_longestSentence.cls ≠ "java/lang/invoke/VarHandle" ∧ (parseMethodDescriptor yX4_longestSentence.desc).map (fun d => d.parameters.length) = some 1 := by decide +kernel
set_option maxHeartbeats 4000000 in
set_option maxRecDepth 100000 in
theorem c_X4_longestSentence (l : Launch) {D : va_G} {Y : Nat → ClassId} {A : ss_A} (hAD : AD 0 A) {o : Nat} {p0 : Int32} (ho : o < 4) {r : Int32} {σ σ' : ss_M} (hf : f_X4_longestSentence o p0 σ = some (r, σ')) : Met l yX4_longestSentence wsX4_longestSentence rm_X4_longestSentence (Pc0 0 D Y A σ [.ref (A 0 3 o), .int p0]) (Qi0 0 D Y A r σ') 0 0 (FA 0 A) := by
  rw [f_X4_longestSentence] at hf
  refine Met0 (cc := cX4_longestSentence) (maxL := 7) (ret := (some .int)) (own := RX4) (by decide +kernel) rfl hAD rfl (Nat.le_of_ble_eq_true rfl) ?_
  intro p e s m args below meth c S hr hlocks hW ls hl
  obtain ⟨hx, hb, hml, hown, hts⟩ := id S
  have iX4 : ∀ q ∈ wsX40, q ∈ wsX4_longestSentence := fun q h => List.mem_cons_of_mem _ (List.mem_append_left _ (List.mem_append_right _ (h)))
  have iX2 : ∀ q ∈ wsX20, q ∈ wsX4_longestSentence := fun q h => List.mem_cons_of_mem _ (List.mem_append_right _ (h))
  have hl : lv_has ls 7 [(0, .ref (A 0 3 o)), (1, .int p0)] := hl
  refine lv_iconst (v := (0 : Int32)) hx hb dX4_longestSentence_0 (by decide) ?_
  refine lv_istore_n (lv' := [(2, .int (0 : Int32)), (0, .ref (A 0 3 o)), (1, .int p0)]) hx hb dX4_longestSentence_1 rfl hl (by decide) rfl (fun ls hl => ?_)
  refine lv_iconst (v := (-1 : Int32)) hx hb dX4_longestSentence_2 (by decide) ?_
  refine lv_istore_n (lv' := [(3, .int (-1 : Int32)), (2, .int (0 : Int32)), (0, .ref (A 0 3 o)), (1, .int p0)]) hx hb dX4_longestSentence_3 rfl hl (by decide) rfl (fun ls hl => ?_)
  refine lv_iconst (v := (0 : Int32)) hx hb dX4_longestSentence_4 (by decide) ?_
  refine lv_istore (lv' := [(4, .int (0 : Int32)), (3, .int (-1 : Int32)), (2, .int (0 : Int32)), (0, .ref (A 0 3 o)), (1, .int p0)]) hx hb dX4_longestSentence_5 hl (by decide) rfl (fun ls hl => ?_)
  refine lv_iconst (v := (0 : Int32)) hx hb dX4_longestSentence_7 (by decide) ?_
  refine lv_istore (lv' := [(5, .int (0 : Int32)), (4, .int (0 : Int32)), (3, .int (-1 : Int32)), (2, .int (0 : Int32)), (0, .ref (A 0 3 o)), (1, .int p0)]) hx hb dX4_longestSentence_8 hl (by decide) rfl (fun ls hl => ?_)
  refine lv_iconst (v := (0 : Int32)) hx hb dX4_longestSentence_10 (by decide) ?_
  refine lv_istore (lv' := [(6, .int (0 : Int32)), (5, .int (0 : Int32)), (4, .int (0 : Int32)), (3, .int (-1 : Int32)), (2, .int (0 : Int32)), (0, .ref (A 0 3 o)), (1, .int p0)]) hx hb dX4_longestSentence_11 hl (by decide) rfl (fun ls hl => ?_)
  have J65 : ∀ (x65_2 : Int32) (x65_3 : Int32) (σ65_ : ss_M) (H : Heap) (locs : List Loc) (ls : Array Slot), sW 0 D Y A σ65_ s s.heap H locs → lv_has ls 7 [(1, .int p0), (2, .int x65_2), (3, .int x65_3)] → f_X4_longestSentence_j65 p0 x65_2 x65_3 σ65_ = some (r, σ') → W p l e rm_X4_longestSentence s m args below meth c H locs 0 0 (MQ below (Qi0 0 D Y A r σ') args s 0 0 (FA 0 A)) (F0 m 65 ls []) := by
    intro x65_2 x65_3 σ65_ H locs ls hW hl hf
    rw [f_X4_longestSentence_j65] at hf
    refine lv_iload_n hx hb dX4_longestSentence_65 rfl (lv_at hl 0 rfl) ?_
    refine lv_if_eq (tgt := 73) hx hb dX4_longestSentence_66 (by decide) (fun q1 => ?_) (fun q1 => ?_)
    · rw [if_pos q1] at hf
      refine lv_iload_n hx hb dX4_longestSentence_73 rfl (lv_at hl 1 rfl) ?_
      exact re_i hx hb hr hlocks hW (Option.some.inj hf) dX4_longestSentence_74
    · rw [if_neg q1] at hf
      refine lv_iload_n hx hb dX4_longestSentence_69 rfl (lv_at hl 2 rfl) ?_
      refine lv_goto (tgt := 74) hx hb dX4_longestSentence_70 (by decide) ?_
      exact re_i hx hb hr hlocks hW (Option.some.inj hf) dX4_longestSentence_74
  have L13 : ∀ (n13 : Nat), ∀ (x13_2 : Int32) (x13_3 : Int32) (x13_4 : Int32) (x13_5 : Int32) (x13_6 : Int32) (σ13_ : ss_M) (H : Heap) (locs : List Loc) (ls : Array Slot), sW 0 D Y A σ13_ s s.heap H locs → lv_has ls 7 [(0, .ref (A 0 3 o)), (1, .int p0), (2, .int x13_2), (3, .int x13_3), (4, .int x13_4), (5, .int x13_5), (6, .int x13_6)] → f_X4_longestSentence_L13 o (f_X4_longestSentence_j65 p0) n13 x13_2 x13_3 x13_4 x13_5 x13_6 σ13_ = some (r, σ') → W p l e rm_X4_longestSentence s m args below meth c H locs 0 0 (MQ below (Qi0 0 D Y A r σ') args s 0 0 (FA 0 A)) (F0 m 13 ls []) := by
    intro n13
    induction n13 with
    | zero =>
      intro x13_2 x13_3 x13_4 x13_5 x13_6 σ13_ H locs ls hW hl hf
      rw [f_X4_longestSentence_L13] at hf
      cases hf
    | succ n13 ih13 =>
      intro x13_2 x13_3 x13_4 x13_5 x13_6 σ13_ H locs ls hW hl hf
      rw [f_X4_longestSentence_L13] at hf
      refine lv_iload hx hb dX4_longestSentence_13 (lv_at hl 6 rfl) ?_
      refine lv_aload_n hx hb dX4_longestSentence_15 rfl (lv_at hl 0 rfl) ?_
      refine gf_X4_words hx hb hts hown hW (kS_in ho) iX4 (List.mem_of_getElem? (i := 1) rfl) dX4_longestSentence_16 ?_
      refine lv_icmp_ge (tgt := 65) hx hb dX4_longestSentence_19 (by decide) (fun q2 => ?_) (fun q2 => ?_)
      · rw [if_pos q2] at hf
        exact J65 x13_2 x13_3 σ13_ _ _ _ hW (lv_sub hl [1, 2, 3] rfl) hf
      · rw [if_neg q2] at hf
        refine lv_iinc (v := (x13_5 + (1 : Int32))) (lv' := [(5, .int (x13_5 + (1 : Int32))), (0, .ref (A 0 3 o)), (1, .int p0), (2, .int x13_2), (3, .int x13_3), (4, .int x13_4), (6, .int x13_6)]) hx hb dX4_longestSentence_22 hl (k := 5) rfl rfl (by decide) rfl (fun ls hl => ?_)
        refine lv_iload hx hb dX4_longestSentence_25 (lv_at hl 0 rfl) ?_
        refine lv_iload_n hx hb dX4_longestSentence_27 rfl (lv_at hl 3 rfl) ?_
        have J37 : ∀ (x37_2 : Int32) (x37_3 : Int32) (x37_5 : Int32) (σ37_ : ss_M) (H : Heap) (locs : List Loc) (ls : Array Slot), sW 0 D Y A σ37_ s s.heap H locs → lv_has ls 7 [(0, .ref (A 0 3 o)), (1, .int p0), (2, .int x37_2), (3, .int x37_3), (4, .int x13_4), (5, .int x37_5), (6, .int x13_6)] → f_X4_longestSentence_j37 o x13_4 x13_6 (f_X4_longestSentence_L13 o (f_X4_longestSentence_j65 p0) n13) x37_2 x37_3 x37_5 σ37_ = some (r, σ') → W p l e rm_X4_longestSentence s m args below meth c H locs 0 0 (MQ below (Qi0 0 D Y A r σ') args s 0 0 (FA 0 A)) (F0 m 37 ls []) := by
          intro x37_2 x37_3 x37_5 σ37_ H locs ls hW hl hf
          rw [f_X4_longestSentence_j37] at hf
          refine lv_aload_n hx hb dX4_longestSentence_37 rfl (lv_at hl 0 rfl) ?_
          refine gf_X4_marks hx hb hts hown hW (kS_in ho) iX4 (List.mem_of_getElem? (i := 2) rfl) dX4_longestSentence_38 ?_
          refine gf_X2_kinds hx hb hts hown hW (kS_in (Nat.lt_of_lt_of_le ho (by decide))) iX2 (List.mem_of_getElem? (i := 3) rfl) dX4_longestSentence_41 ?_
          refine lv_iload hx hb dX4_longestSentence_44 (lv_at hl 6 rfl) ?_
          obtain ⟨g3, hf⟩ := ss_if hf
          refine ra_i hx hb hW (kS_in (Nat.lt_of_lt_of_le ho (by decide))) g3 dX4_longestSentence_46 ?_
          obtain ⟨r4, σ4, hf4, hf⟩ := ss_bd_some hf
          refine rt_i S (c_X1_ends l hAD  hf4) (va_cwS 1 hts gX4_longestSentence_X1_ends rfl rfl rfl hd_X1_ends ⟨(Nat.le_of_ble_eq_true rfl), (Nat.le_of_ble_eq_true rfl)⟩) hW rfl rfl hl.1 (Nat.le_of_ble_eq_true rfl) ⟨Nat.zero_le _, Nat.zero_le _⟩ dX4_longestSentence_47 (fun H locs hW => ?_)
          have J59 : ∀ (x59_4 : Int32) (x59_5 : Int32) (σ59_ : ss_M) (H : Heap) (locs : List Loc) (ls : Array Slot), sW 0 D Y A σ59_ s s.heap H locs → lv_has ls 7 [(0, .ref (A 0 3 o)), (1, .int p0), (2, .int x37_2), (3, .int x37_3), (4, .int x59_4), (5, .int x59_5), (6, .int x13_6)] → f_X4_longestSentence_j59 x13_6 (f_X4_longestSentence_L13 o (f_X4_longestSentence_j65 p0) n13) x37_2 x37_3 x59_4 x59_5 σ59_ = some (r, σ') → W p l e rm_X4_longestSentence s m args below meth c H locs 0 0 (MQ below (Qi0 0 D Y A r σ') args s 0 0 (FA 0 A)) (F0 m 59 ls []) := by
            intro x59_4 x59_5 σ59_ H locs ls hW hl hf
            rw [f_X4_longestSentence_j59] at hf
            refine lv_iinc (v := (x13_6 + (1 : Int32))) (lv' := [(6, .int (x13_6 + (1 : Int32))), (0, .ref (A 0 3 o)), (1, .int p0), (2, .int x37_2), (3, .int x37_3), (4, .int x59_4), (5, .int x59_5)]) hx hb dX4_longestSentence_59 hl (k := 6) rfl rfl (by decide) rfl (fun ls hl => ?_)
            refine lv_goto (tgt := 13) hx hb dX4_longestSentence_62 (by decide) ?_
            exact ih13 x37_2 x37_3 x59_4 x59_5 (x13_6 + (1 : Int32)) σ59_ _ _ _ hW (lv_sub hl [1, 2, 3, 4, 5, 6, 0] rfl) hf
          refine lv_if_eq (tgt := 59) hx hb dX4_longestSentence_50 (by decide) (fun q5 => ?_) (fun q5 => ?_)
          · rw [if_pos q5] at hf
            exact J59 x13_4 x37_5 σ4 _ _ _ hW (lv_sub hl [0, 1, 2, 3, 4, 5, 6] rfl) hf
          · rw [if_neg q5] at hf
            refine lv_iinc (v := (x13_4 + (1 : Int32))) (lv' := [(4, .int (x13_4 + (1 : Int32))), (0, .ref (A 0 3 o)), (1, .int p0), (2, .int x37_2), (3, .int x37_3), (5, .int x37_5), (6, .int x13_6)]) hx hb dX4_longestSentence_53 hl (k := 4) rfl rfl (by decide) rfl (fun ls hl => ?_)
            refine lv_iconst (v := (0 : Int32)) hx hb dX4_longestSentence_56 (by decide) ?_
            refine lv_istore (lv' := [(5, .int (0 : Int32)), (4, .int (x13_4 + (1 : Int32))), (0, .ref (A 0 3 o)), (1, .int p0), (2, .int x37_2), (3, .int x37_3), (6, .int x13_6)]) hx hb dX4_longestSentence_57 hl (by decide) rfl (fun ls hl => ?_)
            exact J59 (x13_4 + (1 : Int32)) (0 : Int32) σ4 _ _ _ hW (lv_sub hl [2, 3, 4, 5, 1, 0, 6] rfl) hf
        refine lv_icmp_le (tgt := 37) hx hb dX4_longestSentence_28 (by decide) (fun q6 => ?_) (fun q6 => ?_)
        · rw [if_pos q6] at hf
          exact J37 x13_2 x13_3 (x13_5 + (1 : Int32)) σ13_ _ _ _ hW (lv_sub hl [1, 2, 3, 4, 5, 0, 6] rfl) hf
        · rw [if_neg q6] at hf
          refine lv_iload hx hb dX4_longestSentence_31 (lv_at hl 0 rfl) ?_
          refine lv_istore_n (lv' := [(2, .int (x13_5 + (1 : Int32))), (5, .int (x13_5 + (1 : Int32))), (0, .ref (A 0 3 o)), (1, .int p0), (3, .int x13_3), (4, .int x13_4), (6, .int x13_6)]) hx hb dX4_longestSentence_33 rfl hl (by decide) rfl (fun ls hl => ?_)
          refine lv_iload hx hb dX4_longestSentence_34 (lv_at hl 5 rfl) ?_
          refine lv_istore_n (lv' := [(3, .int x13_4), (2, .int (x13_5 + (1 : Int32))), (5, .int (x13_5 + (1 : Int32))), (0, .ref (A 0 3 o)), (1, .int p0), (4, .int x13_4), (6, .int x13_6)]) hx hb dX4_longestSentence_36 rfl hl (by decide) rfl (fun ls hl => ?_)
          exact J37 (x13_5 + (1 : Int32)) x13_4 (x13_5 + (1 : Int32)) σ13_ _ _ _ hW (lv_sub hl [3, 4, 1, 0, 5, 2, 6] rfl) hf
  exact L13 FU (0 : Int32) (-1 : Int32) (0 : Int32) (0 : Int32) (0 : Int32) σ _ _ _ hW (lv_sub hl [5, 6, 4, 3, 2, 1, 0] rfl) hf
