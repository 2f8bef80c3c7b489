def f_X6_add (p0 : Int32) (σ : ss_M) : Option ss_M :=
  if gd (sG σ 8 0) 150 = true then (ss_let (sGu (sAu σ 11 0 (upd (sA σ 11 0) ((sG σ 8 0)).toNatClampNeg p0)) 8 0 ((sG (sAu σ 11 0 (upd (sA σ 11 0) ((sG σ 8 0)).toNatClampNeg p0)) 8 0) + (1 : Int32))) (fun σm2 => some σm2)) else none
def rm_X6_add : Room := { frames := 0, cells := 0, slots := 0, locals := 0 }
theorem hd_X6_add : yX6_add.cls = RX6 ∧ yX6_add.cls ≠ "java/lang/invoke/MethodHandle" ∧ yX6_add.cls ≠ "java/lang/invoke/VarHandle" ∧ (parseMethodDescriptor yX6_add.desc).map (fun d => d.parameters.length) = some 1 := by decide +kernel
set_option maxHeartbeats 4000000 in
set_option maxRecDepth 100000 in
theorem c_X6_add (l : Launch) {D : va_G} {Y : Nat → ClassId} {A : ss_A} (hAD : AD 0 A) {p0 : Int32}  {σ σ' : ss_M} (hf : f_X6_add p0 σ = some σ') : Met l yX6_add wsX6_add rm_X6_add (Pc0 0 D Y A σ [.ref (A 0 5 0), .int p0]) (Qv0 0 D Y A σ') 0 0 (FA 0 A) := by
  rw [f_X6_add] at hf
  refine Met0 (cc := cX6_add) (maxL := 2) (ret := none) (own := RX6) (by decide +kernel) rfl hAD rfl (Nat.le_of_ble_eq_true rfl) ?_
  intro p e s m args below meth c S hr hlocks hW ls hl
  obtain ⟨hx, hb, hml, hown, hts⟩ := id S
  have iX6 : ∀ q ∈ wsX60, q ∈ wsX6_add := fun q h => List.mem_cons_of_mem _ (List.mem_append_right _ (h))
  have hl : lv_has ls 2 [(0, .ref (A 0 5 0)), (1, .int p0)] := hl
  refine lv_aload_n hx hb dX6_add_0 rfl (lv_at hl 0 rfl) ?_
  refine gf_X6_bytes hx hb hts hown hW (kS_in (by decide)) iX6 (List.mem_of_getElem? (i := 1) rfl) dX6_add_1 ?_
  refine lv_aload_n hx hb dX6_add_4 rfl (lv_at hl 0 rfl) ?_
  refine gf_X6_size hx hb hts hown hW (kS_in (by decide)) iX6 (List.mem_of_getElem? (i := 2) rfl) dX6_add_5 ?_
  refine lv_iload_n hx hb dX6_add_8 rfl (lv_at hl 1 rfl) ?_
  obtain ⟨g1, hf⟩ := ss_if hf
  refine rs_i hx hb hW (kS_in (by decide)) g1 dX6_add_9 (fun H locs hW => ?_)
  refine lv_aload_n hx hb dX6_add_10 rfl (lv_at hl 0 rfl) ?_
  refine lv_dup hx hb dX6_add_11 rfl ?_
  refine gf_X6_size hx hb hts hown hW (kS_in (by decide)) iX6 (List.mem_of_getElem? (i := 2) rfl) dX6_add_12 ?_
  refine lv_iconst (v := (1 : Int32)) hx hb dX6_add_15 (by decide) ?_
  refine lv_iadd hx hb dX6_add_16 ?_
  refine pf_X6_size hx hb hts hown hW (kS_in (by decide)) iX6 (List.mem_of_getElem? (i := 2) rfl) dX6_add_17 (fun H locs hW => ?_)
  obtain ⟨σm2, eσm2, hf⟩ := ss_let_some hf
  rw [← eσm2] at hW
  exact re_v hx hb hr hlocks hW (Option.some.inj hf) dX6_add_20
def f_X6_runEnd_L3 (p1 : Int32) (p2 : Int32) : Nat → Int32 → ss_M → Option (Int32 × ss_M)
  | 0, _, _ => none
  | n3 + 1, x3_4, σ3_ => if (sG σ3_ 8 0) ≤ x3_4 then (some (x3_4, σ3_)) else (if gd x3_4 150 = true then (if (sA σ3_ 11 0 (x3_4).toNatClampNeg) < p1 then (some (x3_4, σ3_)) else (if gd x3_4 150 = true then (if p2 < (sA σ3_ 11 0 (x3_4).toNatClampNeg) then (some (x3_4, σ3_)) else ((f_X6_runEnd_L3 p1 p2 n3) (x3_4 + (1 : Int32)) σ3_)) else none)) else none)
def f_X6_runEnd (p0 : Int32) (p1 : Int32) (p2 : Int32) (σ : ss_M) : Option (Int32 × ss_M) :=
  f_X6_runEnd_L3 p1 p2 FU p0 σ
def rm_X6_runEnd : Room := { frames := 0, cells := 0, slots := 0, locals := 0 }
theorem hd_X6_runEnd : yX6_runEnd.cls = RX6 ∧ yX6_runEnd.cls ≠ "java/lang/invoke/MethodHandle" ∧ yX6_runEnd.cls ≠ "java/lang/invoke/VarHandle" ∧ (parseMethodDescriptor yX6_runEnd.desc).map (fun d => d.parameters.length) = some 3 := by decide +kernel
set_option maxHeartbeats 4000000 in
set_option maxRecDepth 100000 in
theorem c_X6_runEnd (l : Launch) {D : va_G} {Y : Nat → ClassId} {A : ss_A} (hAD : AD 0 A) {p0 : Int32} {p1 : Int32} {p2 : Int32}  {r : Int32} {σ σ' : ss_M} (hf : f_X6_runEnd p0 p1 p2 σ = some (r, σ')) : Met l yX6_runEnd wsX6_runEnd rm_X6_runEnd (Pc0 0 D Y A σ [.ref (A 0 5 0), .int p0, .int p1, .int p2]) (Qi0 0 D Y A r σ') 0 0 (FA 0 A) := by
  rw [f_X6_runEnd] at hf
  refine Met0 (cc := cX6_runEnd) (maxL := 5) (ret := (some .int)) (own := RX6) (by decide +kernel) rfl hAD rfl (Nat.le_of_ble_eq_true rfl) ?_
  intro p e s m args below meth c S hr hlocks hW ls hl
  obtain ⟨hx, hb, hml, hown, hts⟩ := id S
  have iX6 : ∀ q ∈ wsX60, q ∈ wsX6_runEnd := fun q h => List.mem_cons_of_mem _ (List.mem_append_right _ (h))
  have hl : lv_has ls 5 [(0, .ref (A 0 5 0)), (1, .int p0), (2, .int p1), (3, .int p2)] := hl
  refine lv_iload_n hx hb dX6_runEnd_0 rfl (lv_at hl 1 rfl) ?_
  refine lv_istore (lv' := [(4, .int p0), (0, .ref (A 0 5 0)), (1, .int p0), (2, .int p1), (3, .int p2)]) hx hb dX6_runEnd_1 hl (by decide) rfl (fun ls hl => ?_)
  have L3 : ∀ (n3 : Nat), ∀ (x3_4 : Int32) (σ3_ : ss_M) (H : Heap) (locs : List Loc) (ls : Array Slot), sW 0 D Y A σ3_ s s.heap H locs → lv_has ls 5 [(0, .ref (A 0 5 0)), (2, .int p1), (3, .int p2), (4, .int x3_4)] → f_X6_runEnd_L3 p1 p2 n3 x3_4 σ3_ = some (r, σ') → W p l e rm_X6_runEnd s m args below meth c H locs 0 0 (MQ below (Qi0 0 D Y A r σ') args s 0 0 (FA 0 A)) (F0 m 3 ls []) := by
    intro n3
    induction n3 with
    | zero =>
      intro x3_4 σ3_ H locs ls hW hl hf
      rw [f_X6_runEnd_L3] at hf
      cases hf
    | succ n3 ih3 =>
      intro x3_4 σ3_ H locs ls hW hl hf
      rw [f_X6_runEnd_L3] at hf
      refine lv_iload hx hb dX6_runEnd_3 (lv_at hl 3 rfl) ?_
      refine lv_aload_n hx hb dX6_runEnd_5 rfl (lv_at hl 0 rfl) ?_
      refine gf_X6_size hx hb hts hown hW (kS_in (by decide)) iX6 (List.mem_of_getElem? (i := 1) rfl) dX6_runEnd_6 ?_
      refine lv_icmp_ge (tgt := 40) hx hb dX6_runEnd_9 (by decide) (fun q1 => ?_) (fun q1 => ?_)
      · rw [if_pos q1] at hf
        refine lv_iload hx hb dX6_runEnd_40 (lv_at hl 3 rfl) ?_
        exact re_i hx hb hr hlocks hW (Option.some.inj hf) dX6_runEnd_42
      · rw [if_neg q1] at hf
        refine lv_aload_n hx hb dX6_runEnd_12 rfl (lv_at hl 0 rfl) ?_
        refine gf_X6_bytes hx hb hts hown hW (kS_in (by decide)) iX6 (List.mem_of_getElem? (i := 2) rfl) dX6_runEnd_13 ?_
        refine lv_iload hx hb dX6_runEnd_16 (lv_at hl 3 rfl) ?_
        obtain ⟨g2, hf⟩ := ss_if hf
        refine ra_i hx hb hW (kS_in (by decide)) g2 dX6_runEnd_18 ?_
        refine lv_iload_n hx hb dX6_runEnd_19 rfl (lv_at hl 1 rfl) ?_
        refine lv_icmp_lt (tgt := 40) hx hb dX6_runEnd_20 (by decide) (fun q3 => ?_) (fun q3 => ?_)
        · rw [if_pos q3] at hf
          refine lv_iload hx hb dX6_runEnd_40 (lv_at hl 3 rfl) ?_
          exact re_i hx hb hr hlocks hW (Option.some.inj hf) dX6_runEnd_42
        · rw [if_neg q3] at hf
          refine lv_aload_n hx hb dX6_runEnd_23 rfl (lv_at hl 0 rfl) ?_
          refine gf_X6_bytes hx hb hts hown hW (kS_in (by decide)) iX6 (List.mem_of_getElem? (i := 2) rfl) dX6_runEnd_24 ?_
          refine lv_iload hx hb dX6_runEnd_27 (lv_at hl 3 rfl) ?_
          obtain ⟨g4, hf⟩ := ss_if hf
          refine ra_i hx hb hW (kS_in (by decide)) g4 dX6_runEnd_29 ?_
          refine lv_iload_n hx hb dX6_runEnd_30 rfl (lv_at hl 2 rfl) ?_
          refine lv_icmp_gt (tgt := 40) hx hb dX6_runEnd_31 (by decide) (fun q5 => ?_) (fun q5 => ?_)
          · rw [if_pos q5] at hf
            refine lv_iload hx hb dX6_runEnd_40 (lv_at hl 3 rfl) ?_
            exact re_i hx hb hr hlocks hW (Option.some.inj hf) dX6_runEnd_42
          · rw [if_neg q5] at hf
            refine lv_iinc (v := (x3_4 + (1 : Int32))) (lv' := [(4, .int (x3_4 + (1 : Int32))), (0, .ref (A 0 5 0)), (2, .int p1), (3, .int p2)]) hx hb dX6_runEnd_34 hl (k := 3) rfl rfl (by decide) rfl (fun ls hl => ?_)
            refine lv_goto (tgt := 3) hx hb dX6_runEnd_37 (by decide) ?_
            exact ih3 (x3_4 + (1 : Int32)) σ3_ _ _ _ hW (lv_sub hl [1, 2, 3, 0] rfl) hf
  exact L3 FU p0 σ _ _ _ hW (lv_sub hl [1, 3, 4, 0] rfl) hf
def f_X6_isHere_L20 (t : Nat) : Nat → Int32 → ss_M → Option (Int32 × ss_M)
  | 0, _, _ => none
  | n20 + 1, x20_2, σ20_ => if (4 : Int32) ≤ x20_2 then (some ((1 : Int32), σ20_)) else (if gd ((sG σ20_ 12 0) + x20_2) 150 = true then (if gd x20_2 4 = true then (if (sA σ20_ 11 0 (((sG σ20_ 12 0) + x20_2)).toNatClampNeg) = (sC t (x20_2).toNatClampNeg) then ((f_X6_isHere_L20 t n20) (x20_2 + (1 : Int32)) σ20_) else (some ((0 : Int32), σ20_))) else none) else none)
def f_X6_isHere (t : Nat) (σ : ss_M) : Option (Int32 × ss_M) :=
  if ((sG σ 13 0) - (sG σ 12 0)) = (4 : Int32) then (f_X6_isHere_L20 t FU (0 : Int32) σ) else (some ((0 : Int32), σ))
def rm_X6_isHere : Room := { frames := 8, cells := 0, slots := 0, locals := 400 }
theorem hd_X6_isHere : yX6_isHere.cls = RX6 ∧ yX6_isHere.cls ≠ "java/lang/invoke/MethodHandle" ∧ yX6_isHere.cls ≠ "java/lang/invoke/VarHandle" ∧ (parseMethodDescriptor yX6_isHere.desc).map (fun d => d.parameters.length) = some 1 := by decide +kernel
set_option maxHeartbeats 4000000 in
set_option maxRecDepth 100000 in
theorem c_X6_isHere (l : Launch) {D : va_G} {Y : Nat → ClassId} {A : ss_A} (hAD : AD 0 A) {t : Nat} (ht : t < 3) {r : Int32} {σ σ' : ss_M} (hf : f_X6_isHere t σ = some (r, σ')) : Met l yX6_isHere wsX6_isHere rm_X6_isHere (Pc0 0 D Y A σ [.ref (A 0 5 0), .ref (A 5 0 t)]) (Qi0 0 D Y A r σ') 0 0 (FA 0 A) := by
  rw [f_X6_isHere] at hf
  refine Met0 (cc := cX6_isHere) (maxL := 3) (ret := (some .boolean)) (own := RX6) (by decide +kernel) rfl hAD rfl (Nat.le_of_ble_eq_true rfl) ?_
  intro p e s m args below meth c S hr hlocks hW ls hl
  obtain ⟨hx, hb, hml, hown, hts⟩ := id S
  have iX6 : ∀ q ∈ wsX60, q ∈ wsX6_isHere := fun q h => List.mem_cons_of_mem _ (List.mem_append_right _ (h))
  have hl : lv_has ls 3 [(0, .ref (A 0 5 0)), (1, .ref (A 5 0 t))] := hl
  refine lv_aload_n hx hb dX6_isHere_0 rfl (lv_at hl 0 rfl) ?_
  refine gf_X6_behind hx hb hts hown hW (kS_in (by decide)) iX6 (List.mem_of_getElem? (i := 1) rfl) dX6_isHere_1 ?_
  refine lv_aload_n hx hb dX6_isHere_4 rfl (lv_at hl 0 rfl) ?_
  refine gf_X6_place hx hb hts hown hW (kS_in (by decide)) iX6 (List.mem_of_getElem? (i := 2) rfl) dX6_isHere_5 ?_
  refine lv_isub hx hb dX6_isHere_8 ?_
  refine lv_aload_n hx hb dX6_isHere_9 rfl (lv_at hl 1 rfl) ?_
  refine rvX_i S (c_J0_length_8abf5 l hAD ht) (cwV 0 hts gX6_isHere_J0_length_8abf5 rfl rfl rfl hd_J0_length_8abf5 ⟨(Nat.le_of_ble_eq_true rfl), (Nat.le_of_ble_eq_true rfl)⟩) hW (ss_strC hW ht) rfl rfl hl.1 (Nat.le_of_ble_eq_true rfl) ⟨Nat.zero_le _, Nat.zero_le _⟩ dX6_isHere_10 (fun H locs hW => ?_)
  refine lv_icmp_eq (tgt := 18) hx hb dX6_isHere_13 (by decide) (fun q1 => ?_) (fun q1 => ?_)
  · rw [if_pos q1] at hf
    refine lv_iconst (v := (0 : Int32)) hx hb dX6_isHere_18 (by decide) ?_
    refine lv_istore_n (lv' := [(2, .int (0 : Int32)), (0, .ref (A 0 5 0)), (1, .ref (A 5 0 t))]) hx hb dX6_isHere_19 rfl hl (by decide) rfl (fun ls hl => ?_)
    have L20 : ∀ (n20 : Nat), ∀ (x20_2 : Int32) (σ20_ : ss_M) (H : Heap) (locs : List Loc) (ls : Array Slot), sW 0 D Y A σ20_ s s.heap H locs → lv_has ls 3 [(0, .ref (A 0 5 0)), (1, .ref (A 5 0 t)), (2, .int x20_2)] → f_X6_isHere_L20 t n20 x20_2 σ20_ = some (r, σ') → W p l e rm_X6_isHere s m args below meth c H locs 0 0 (MQ below (Qi0 0 D Y A r σ') args s 0 0 (FA 0 A)) (F0 m 20 ls []) := by
      intro n20
      induction n20 with
      | zero =>
        intro x20_2 σ20_ H locs ls hW hl hf
        rw [f_X6_isHere_L20] at hf
        cases hf
      | succ n20 ih20 =>
        intro x20_2 σ20_ H locs ls hW hl hf
        rw [f_X6_isHere_L20] at hf
        refine lv_iload_n hx hb dX6_isHere_20 rfl (lv_at hl 2 rfl) ?_
        refine lv_aload_n hx hb dX6_isHere_21 rfl (lv_at hl 1 rfl) ?_
        refine rvX_i S (c_J0_length_8abf5 l hAD ht) (cwV 0 hts gX6_isHere_J0_length_8abf5 rfl rfl rfl hd_J0_length_8abf5 ⟨(Nat.le_of_ble_eq_true rfl), (Nat.le_of_ble_eq_true rfl)⟩) hW (ss_strC hW ht) rfl rfl hl.1 (Nat.le_of_ble_eq_true rfl) ⟨Nat.zero_le _, Nat.zero_le _⟩ dX6_isHere_22 (fun H locs hW => ?_)
        refine lv_icmp_ge (tgt := 55) hx hb dX6_isHere_25 (by decide) (fun q2 => ?_) (fun q2 => ?_)
        · rw [if_pos q2] at hf
          refine lv_iconst (v := (1 : Int32)) hx hb dX6_isHere_55 (by decide) ?_
          exact re_z hx hb hr hlocks hW (by decide) (Option.some.inj hf) dX6_isHere_56
        · rw [if_neg q2] at hf
          refine lv_aload_n hx hb dX6_isHere_28 rfl (lv_at hl 0 rfl) ?_
          refine gf_X6_bytes hx hb hts hown hW (kS_in (by decide)) iX6 (List.mem_of_getElem? (i := 3) rfl) dX6_isHere_29 ?_
          refine lv_aload_n hx hb dX6_isHere_32 rfl (lv_at hl 0 rfl) ?_
          refine gf_X6_place hx hb hts hown hW (kS_in (by decide)) iX6 (List.mem_of_getElem? (i := 2) rfl) dX6_isHere_33 ?_
          refine lv_iload_n hx hb dX6_isHere_36 rfl (lv_at hl 2 rfl) ?_
          refine lv_iadd hx hb dX6_isHere_37 ?_
          obtain ⟨g3, hf⟩ := ss_if hf
          refine ra_i hx hb hW (kS_in (by decide)) g3 dX6_isHere_38 ?_
          refine lv_aload_n hx hb dX6_isHere_39 rfl (lv_at hl 1 rfl) ?_
          refine lv_iload_n hx hb dX6_isHere_40 rfl (lv_at hl 2 rfl) ?_
          obtain ⟨g4, hf⟩ := ss_if hf
          refine rvX_i S (c_J0_charAt_5068e l hAD ht g4) (cwV 1 hts gX6_isHere_J0_charAt_5068e rfl rfl rfl hd_J0_charAt_5068e ⟨(Nat.le_of_ble_eq_true rfl), (Nat.le_of_ble_eq_true rfl)⟩) hW (ss_strC hW ht) rfl rfl hl.1 (Nat.le_of_ble_eq_true rfl) ⟨Nat.zero_le _, Nat.zero_le _⟩ dX6_isHere_41 (fun H locs hW => ?_)
          refine lv_icmp_eq (tgt := 49) hx hb dX6_isHere_44 (by decide) (fun q5 => ?_) (fun q5 => ?_)
          · rw [if_pos q5] at hf
            refine lv_iinc (v := (x20_2 + (1 : Int32))) (lv' := [(2, .int (x20_2 + (1 : Int32))), (0, .ref (A 0 5 0)), (1, .ref (A 5 0 t))]) hx hb dX6_isHere_49 hl (k := 2) rfl rfl (by decide) rfl (fun ls hl => ?_)
            refine lv_goto (tgt := 20) hx hb dX6_isHere_52 (by decide) ?_
            exact ih20 (x20_2 + (1 : Int32)) σ20_ _ _ _ hW (lv_sub hl [1, 2, 0] rfl) hf
          · rw [if_neg q5] at hf
            refine lv_iconst (v := (0 : Int32)) hx hb dX6_isHere_47 (by decide) ?_
            exact re_z hx hb hr hlocks hW (by decide) (Option.some.inj hf) dX6_isHere_48
    exact L20 FU (0 : Int32) σ _ _ _ hW (lv_sub hl [1, 2, 0] rfl) hf
  · rw [if_neg q1] at hf
    refine lv_iconst (v := (0 : Int32)) hx hb dX6_isHere_16 (by decide) ?_
    exact re_z hx hb hr hlocks hW (by decide) (Option.some.inj hf) dX6_isHere_17
def f_X6_wordHere (σ : ss_M) : Option (Int32 × ss_M) :=
  ss_bd (f_X6_isHere 0 σ) (fun r1 σ1 => if r1 = (0 : Int32) then (ss_bd (f_X6_isHere 1 σ1) (fun r3 σ3 => if r3 = (0 : Int32) then (ss_bd (f_X6_isHere 2 σ3) (fun r5 σ5 => if r5 = (0 : Int32) then (some ((6 : Int32), σ5)) else (some ((3 : Int32), σ5)))) else (some ((2 : Int32), σ3)))) else (some ((1 : Int32), σ1)))
def rm_X6_wordHere : Room := { frames := 10, cells := 0, slots := 0, locals := 500 }
theorem hd_X6_wordHere : yX6_wordHere.cls = RX6 ∧ yX6_wordHere.cls ≠ "java/lang/invoke/MethodHandle" ∧ yX6_wordHere.cls ≠ "java/lang/invoke/VarHandle" ∧ (parseMethodDescriptor yX6_wordHere.desc).map (fun d => d.parameters.length) = some 0 := by decide +kernel
set_option maxHeartbeats 4000000 in
set_option maxRecDepth 100000 in
theorem c_X6_wordHere (l : Launch) {D : va_G} {Y : Nat → ClassId} {A : ss_A} (hAD : AD 0 A)   {r : Int32} {σ σ' : ss_M} (hf : f_X6_wordHere σ = some (r, σ')) : Met l yX6_wordHere wsX6_wordHere rm_X6_wordHere (Pc0 0 D Y A σ [.ref (A 0 5 0)]) (Qi0 0 D Y A r σ') 0 0 (FA 0 A) := by
  rw [f_X6_wordHere] at hf
  refine Met0 (cc := cX6_wordHere) (maxL := 1) (ret := (some .int)) (own := RX6) (by decide +kernel) rfl hAD rfl (Nat.le_of_ble_eq_true rfl) ?_
  intro p e s m args below meth c S hr hlocks hW ls hl
  obtain ⟨hx, hb, hml, hown, hts⟩ := id S
  have hl : lv_has ls 1 [(0, .ref (A 0 5 0))] := hl
  refine lv_aload_n hx hb dX6_wordHere_0 rfl (lv_at hl 0 rfl) ?_
  refine va_ldcS hx hb hown (hW.2.2.2.2 rfl).2.1 dX6_wordHere_1 ?_
  obtain ⟨r1, σ1, hf1, hf⟩ := ss_bd_some hf
  refine rv_i S (c_X6_isHere l hAD (by decide) hf1) (cwV 1 hts gX6_wordHere_X6_isHere rfl rfl rfl hd_X6_isHere ⟨(Nat.le_of_ble_eq_true rfl), (Nat.le_of_ble_eq_true rfl)⟩) hW (kS_in (by decide)) rfl rfl rfl hl.1 (Nat.le_of_ble_eq_true rfl) ⟨Nat.zero_le _, Nat.zero_le _⟩ dX6_wordHere_3 (fun H locs hW => ?_)
  refine lv_if_eq (tgt := 11) hx hb dX6_wordHere_6 (by decide) (fun q2 => ?_) (fun q2 => ?_)
  · rw [if_pos q2] at hf
    refine lv_aload_n hx hb dX6_wordHere_11 rfl (lv_at hl 0 rfl) ?_
    refine va_ldcS hx hb hown (hW.2.2.2.2 rfl).2.2.1 dX6_wordHere_12 ?_
    obtain ⟨r3, σ3, hf3, hf⟩ := ss_bd_some hf
    refine rv_i S (c_X6_isHere l hAD (by decide) hf3) (cwV 1 hts gX6_wordHere_X6_isHere rfl rfl rfl hd_X6_isHere ⟨(Nat.le_of_ble_eq_true rfl), (Nat.le_of_ble_eq_true rfl)⟩) hW (kS_in (by decide)) rfl rfl rfl hl.1 (Nat.le_of_ble_eq_true rfl) ⟨Nat.zero_le _, Nat.zero_le _⟩ dX6_wordHere_14 (fun H locs hW => ?_)
    refine lv_if_eq (tgt := 22) hx hb dX6_wordHere_17 (by decide) (fun q4 => ?_) (fun q4 => ?_)
    · rw [if_pos q4] at hf
      refine lv_aload_n hx hb dX6_wordHere_22 rfl (lv_at hl 0 rfl) ?_
      refine va_ldcS hx hb hown (hW.2.2.2.2 rfl).2.2.2.1 dX6_wordHere_23 ?_
      obtain ⟨r5, σ5, hf5, hf⟩ := ss_bd_some hf
      refine rv_i S (c_X6_isHere l hAD (by decide) hf5) (cwV 1 hts gX6_wordHere_X6_isHere rfl rfl rfl hd_X6_isHere ⟨(Nat.le_of_ble_eq_true rfl), (Nat.le_of_ble_eq_true rfl)⟩) hW (kS_in (by decide)) rfl rfl rfl hl.1 (Nat.le_of_ble_eq_true rfl) ⟨Nat.zero_le _, Nat.zero_le _⟩ dX6_wordHere_25 (fun H locs hW => ?_)
      refine lv_if_eq (tgt := 35) hx hb dX6_wordHere_28 (by decide) (fun q6 => ?_) (fun q6 => ?_)
      · rw [if_pos q6] at hf
        refine lv_bipush (v := (6 : Int32)) hx hb dX6_wordHere_35 (by decide) ?_
        exact re_i hx hb hr hlocks hW (Option.some.inj hf) dX6_wordHere_37
      · rw [if_neg q6] at hf
        refine lv_iconst (v := (3 : Int32)) hx hb dX6_wordHere_31 (by decide) ?_
        refine lv_goto (tgt := 37) hx hb dX6_wordHere_32 (by decide) ?_
        exact re_i hx hb hr hlocks hW (Option.some.inj hf) dX6_wordHere_37
    · rw [if_neg q4] at hf
      refine lv_iconst (v := (2 : Int32)) hx hb dX6_wordHere_20 (by decide) ?_
      exact re_i hx hb hr hlocks hW (Option.some.inj hf) dX6_wordHere_21
  · rw [if_neg q2] at hf
    refine lv_iconst (v := (1 : Int32)) hx hb dX6_wordHere_9 (by decide) ?_
    exact re_i hx hb hr hlocks hW (Option.some.inj hf) dX6_wordHere_10
def f_X6_numberHere_L26 : Nat → Int32 → ss_M → Option (Int32 × ss_M)
  | 0, _, _ => none
  | n26 + 1, x26_1, σ26_ => if (sG σ26_ 13 0) ≤ x26_1 then (some ((4 : Int32), σ26_)) else (if gd x26_1 150 = true then ((f_X6_numberHere_L26 n26) (x26_1 + (1 : Int32)) (sGu σ26_ 11 0 ((((10 : Int32) * (sG σ26_ 11 0)) + (sA σ26_ 11 0 (x26_1).toNatClampNeg)) - (48 : Int32)))) else none)
def f_X6_numberHere (σ : ss_M) : Option (Int32 × ss_M) :=
  if ((sG σ 13 0) - (sG σ 12 0)) ≤ (2 : Int32) then (f_X6_numberHere_L26 FU (sG (sGu σ 11 0 (0 : Int32)) 12 0) (sGu σ 11 0 (0 : Int32))) else (some ((6 : Int32), σ))
def rm_X6_numberHere : Room := { frames := 0, cells := 0, slots := 0, locals := 0 }
theorem hd_X6_numberHere : yX6_numberHere.cls = RX6 ∧ yX6_numberHere.cls ≠ "java/lang/invoke/MethodHandle" ∧ yX6_numberHere.cls ≠ "java/lang/invoke/VarHandle" ∧ (parseMethodDescriptor yX6_numberHere.desc).map (fun d => d.parameters.length) = some 0 := by decide +kernel
set_option maxHeartbeats 4000000 in
set_option maxRecDepth 100000 in
theorem c_X6_numberHere (l : Launch) {D : va_G} {Y : Nat → ClassId} {A : ss_A} (hAD : AD 0 A)   {r : Int32} {σ σ' : ss_M} (hf : f_X6_numberHere σ = some (r, σ')) : Met l yX6_numberHere wsX6_numberHere rm_X6_numberHere (Pc0 0 D Y A σ [.ref (A 0 5 0)]) (Qi0 0 D Y A r σ') 0 0 (FA 0 A) := by
  rw [f_X6_numberHere] at hf
  refine Met0 (cc := cX6_numberHere) (maxL := 2) (ret := (some .int)) (own := RX6) (by decide +kernel) rfl hAD rfl (Nat.le_of_ble_eq_true rfl) ?_
  intro p e s m args below meth c S hr hlocks hW ls hl
  obtain ⟨hx, hb, hml, hown, hts⟩ := id S
  have iX6 : ∀ q ∈ wsX60, q ∈ wsX6_numberHere := fun q h => List.mem_cons_of_mem _ (List.mem_append_right _ (h))
  have hl : lv_has ls 2 [(0, .ref (A 0 5 0))] := hl
  refine lv_aload_n hx hb dX6_numberHere_0 rfl (lv_at hl 0 rfl) ?_
  refine gf_X6_behind hx hb hts hown hW (kS_in (by decide)) iX6 (List.mem_of_getElem? (i := 1) rfl) dX6_numberHere_1 ?_
  refine lv_aload_n hx hb dX6_numberHere_4 rfl (lv_at hl 0 rfl) ?_
  refine gf_X6_place hx hb hts hown hW (kS_in (by decide)) iX6 (List.mem_of_getElem? (i := 2) rfl) dX6_numberHere_5 ?_
  refine lv_isub hx hb dX6_numberHere_8 ?_
  refine lv_iconst (v := (2 : Int32)) hx hb dX6_numberHere_9 (by decide) ?_
  refine lv_icmp_le (tgt := 16) hx hb dX6_numberHere_10 (by decide) (fun q1 => ?_) (fun q1 => ?_)
  · rw [if_pos q1] at hf
    refine lv_aload_n hx hb dX6_numberHere_16 rfl (lv_at hl 0 rfl) ?_
    refine lv_iconst (v := (0 : Int32)) hx hb dX6_numberHere_17 (by decide) ?_
    refine pf_X6_value hx hb hts hown hW (kS_in (by decide)) iX6 (List.mem_of_getElem? (i := 3) rfl) dX6_numberHere_18 (fun H locs hW => ?_)
    refine lv_aload_n hx hb dX6_numberHere_21 rfl (lv_at hl 0 rfl) ?_
    refine gf_X6_place hx hb hts hown hW (kS_in (by decide)) iX6 (List.mem_of_getElem? (i := 2) rfl) dX6_numberHere_22 ?_
    refine lv_istore_n (lv' := [(1, .int (sG (sGu σ 11 0 (0 : Int32)) 12 0)), (0, .ref (A 0 5 0))]) hx hb dX6_numberHere_25 rfl hl (by decide) rfl (fun ls hl => ?_)
    have L26 : ∀ (n26 : Nat), ∀ (x26_1 : Int32) (σ26_ : ss_M) (H : Heap) (locs : List Loc) (ls : Array Slot), sW 0 D Y A σ26_ s s.heap H locs → lv_has ls 2 [(0, .ref (A 0 5 0)), (1, .int x26_1)] → f_X6_numberHere_L26 n26 x26_1 σ26_ = some (r, σ') → W p l e rm_X6_numberHere s m args below meth c H locs 0 0 (MQ below (Qi0 0 D Y A r σ') args s 0 0 (FA 0 A)) (F0 m 26 ls []) := by
      intro n26
      induction n26 with
      | zero =>
        intro x26_1 σ26_ H locs ls hW hl hf
        rw [f_X6_numberHere_L26] at hf
        cases hf
      | succ n26 ih26 =>
        intro x26_1 σ26_ H locs ls hW hl hf
        rw [f_X6_numberHere_L26] at hf
        refine lv_iload_n hx hb dX6_numberHere_26 rfl (lv_at hl 1 rfl) ?_
        refine lv_aload_n hx hb dX6_numberHere_27 rfl (lv_at hl 0 rfl) ?_
        refine gf_X6_behind hx hb hts hown hW (kS_in (by decide)) iX6 (List.mem_of_getElem? (i := 1) rfl) dX6_numberHere_28 ?_
        refine lv_icmp_ge (tgt := 61) hx hb dX6_numberHere_31 (by decide) (fun q2 => ?_) (fun q2 => ?_)
        · rw [if_pos q2] at hf
          refine lv_iconst (v := (4 : Int32)) hx hb dX6_numberHere_61 (by decide) ?_
          exact re_i hx hb hr hlocks hW (Option.some.inj hf) dX6_numberHere_62
        · rw [if_neg q2] at hf
          refine lv_aload_n hx hb dX6_numberHere_34 rfl (lv_at hl 0 rfl) ?_
          refine lv_bipush (v := (10 : Int32)) hx hb dX6_numberHere_35 (by decide) ?_
          refine lv_aload_n hx hb dX6_numberHere_37 rfl (lv_at hl 0 rfl) ?_
          refine gf_X6_value hx hb hts hown hW (kS_in (by decide)) iX6 (List.mem_of_getElem? (i := 3) rfl) dX6_numberHere_38 ?_
          refine lv_imul hx hb dX6_numberHere_41 ?_
          refine lv_aload_n hx hb dX6_numberHere_42 rfl (lv_at hl 0 rfl) ?_
          refine gf_X6_bytes hx hb hts hown hW (kS_in (by decide)) iX6 (List.mem_of_getElem? (i := 4) rfl) dX6_numberHere_43 ?_
          refine lv_iload_n hx hb dX6_numberHere_46 rfl (lv_at hl 1 rfl) ?_
          obtain ⟨g3, hf⟩ := ss_if hf
          refine ra_i hx hb hW (kS_in (by decide)) g3 dX6_numberHere_47 ?_
          refine lv_iadd hx hb dX6_numberHere_48 ?_
          refine lv_bipush (v := (48 : Int32)) hx hb dX6_numberHere_49 (by decide) ?_
          refine lv_isub hx hb dX6_numberHere_51 ?_
          refine pf_X6_value hx hb hts hown hW (kS_in (by decide)) iX6 (List.mem_of_getElem? (i := 3) rfl) dX6_numberHere_52 (fun H locs hW => ?_)
          refine lv_iinc (v := (x26_1 + (1 : Int32))) (lv' := [(1, .int (x26_1 + (1 : Int32))), (0, .ref (A 0 5 0))]) hx hb dX6_numberHere_55 hl (k := 1) rfl rfl (by decide) rfl (fun ls hl => ?_)
          refine lv_goto (tgt := 26) hx hb dX6_numberHere_58 (by decide) ?_
          exact ih26 (x26_1 + (1 : Int32)) (sGu σ26_ 11 0 ((((10 : Int32) * (sG σ26_ 11 0)) + (sA σ26_ 11 0 (x26_1).toNatClampNeg)) - (48 : Int32))) _ _ _ hW (lv_sub hl [1, 0] rfl) hf
    exact L26 FU (sG (sGu σ 11 0 (0 : Int32)) 12 0) (sGu σ 11 0 (0 : Int32)) _ _ _ hW (lv_sub hl [1, 0] rfl) hf
  · rw [if_neg q1] at hf
    refine lv_bipush (v := (6 : Int32)) hx hb dX6_numberHere_13 (by decide) ?_
    exact re_i hx hb hr hlocks hW (Option.some.inj hf) dX6_numberHere_15
def f_X6_next_j144 (s144_0 : Int32) (σ144_ : ss_M) : Option ss_M :=
  some (sGu σ144_ 10 0 s144_0)
def f_X6_next_j121 (x82_1 : Int32) (σ121_ : ss_M) : Option ss_M :=
  if x82_1 = (59 : Int32) then (f_X6_next_j144 (5 : Int32) (sGu σ121_ 13 0 ((sG σ121_ 12 0) + (1 : Int32)))) else (f_X6_next_j144 (6 : Int32) (sGu σ121_ 13 0 ((sG σ121_ 12 0) + (1 : Int32))))
def f_X6_next_j82 (x82_1 : Int32) (σ82_ : ss_M) : Option ss_M :=
  if x82_1 < (48 : Int32) then (f_X6_next_j121 x82_1 σ82_) else (if (57 : Int32) < x82_1 then (f_X6_next_j121 x82_1 σ82_) else (ss_bd (f_X6_runEnd (sG σ82_ 12 0) (48 : Int32) (57 : Int32) σ82_) (fun r7 σ7 => ss_bd (f_X6_numberHere (sGu σ7 13 0 r7)) (fun r8 σ8 => some (sGu σ8 10 0 r8)))))
def f_X6_next (σ : ss_M) : Option ss_M :=
  ss_bd (f_X6_runEnd (sG σ 13 0) (32 : Int32) (32 : Int32) σ) (fun r1 σ1 => if (sG (sGu σ1 12 0 r1) 12 0) < (sG (sGu σ1 12 0 r1) 8 0) then (if gd (sG (sGu σ1 12 0 r1) 12 0) 150 = true then (if (sA (sGu σ1 12 0 r1) 11 0 ((sG (sGu σ1 12 0 r1) 12 0)).toNatClampNeg) < (97 : Int32) then (f_X6_next_j82 (sA (sGu σ1 12 0 r1) 11 0 ((sG (sGu σ1 12 0 r1) 12 0)).toNatClampNeg) (sGu σ1 12 0 r1)) else (if (122 : Int32) < (sA (sGu σ1 12 0 r1) 11 0 ((sG (sGu σ1 12 0 r1) 12 0)).toNatClampNeg) then (f_X6_next_j82 (sA (sGu σ1 12 0 r1) 11 0 ((sG (sGu σ1 12 0 r1) 12 0)).toNatClampNeg) (sGu σ1 12 0 r1)) else (ss_bd (f_X6_runEnd (sG (sGu σ1 12 0 r1) 12 0) (97 : Int32) (122 : Int32) (sGu σ1 12 0 r1)) (fun r11 σ11 => ss_bd (f_X6_wordHere (sGu σ11 13 0 r11)) (fun r12 σ12 => some (sGu σ12 10 0 r12)))))) else none) else (some (sGu (sGu σ1 12 0 r1) 10 0 (0 : Int32))))
def rm_X6_next : Room := { frames := 12, cells := 0, slots := 0, locals := 600 }
theorem hd_X6_next : yX6_next.cls = RX6 ∧ yX6_next.cls ≠ "java/lang/invoke/MethodHandle" ∧ yX6_next.cls ≠ "java/lang/invoke/VarHandle" ∧ (parseMethodDescriptor yX6_next.desc).map (fun d => d.parameters.length) = some 0 := by decide +kernel
set_option maxHeartbeats 4000000 in
set_option maxRecDepth 100000 in
theorem c_X6_next (l : Launch) {D : va_G} {Y : Nat → ClassId} {A : ss_A} (hAD : AD 0 A)   {σ σ' : ss_M} (hf : f_X6_next σ = some σ') : Met l yX6_next wsX6_next rm_X6_next (Pc0 0 D Y A σ [.ref (A 0 5 0)]) (Qv0 0 D Y A σ') 0 0 (FA 0 A) := by
  rw [f_X6_next] at hf
  refine Met0 (cc := cX6_next) (maxL := 2) (ret := none) (own := RX6) (by decide +kernel) rfl hAD rfl (Nat.le_of_ble_eq_true rfl) ?_
  intro p e s m args below meth c S hr hlocks hW ls hl
  obtain ⟨hx, hb, hml, hown, hts⟩ := id S
  have iX6 : ∀ q ∈ wsX60, q ∈ wsX6_next := fun q h => List.mem_cons_of_mem _ (List.mem_append_right _ (h))
  have hl : lv_has ls 2 [(0, .ref (A 0 5 0))] := hl
  refine lv_aload_n hx hb dX6_next_0 rfl (lv_at hl 0 rfl) ?_
  refine lv_aload_n hx hb dX6_next_1 rfl (lv_at hl 0 rfl) ?_
  refine lv_aload_n hx hb dX6_next_2 rfl (lv_at hl 0 rfl) ?_
  refine gf_X6_behind hx hb hts hown hW (kS_in (by decide)) iX6 (List.mem_of_getElem? (i := 1) rfl) dX6_next_3 ?_
  refine lv_bipush (v := (32 : Int32)) hx hb dX6_next_6 (by decide) ?_
  refine lv_bipush (v := (32 : Int32)) hx hb dX6_next_8 (by decide) ?_
  obtain ⟨r1, σ1, hf1, hf⟩ := ss_bd_some hf
  refine rv_i S (c_X6_runEnd l hAD  hf1) (cwV 3 hts gX6_next_X6_runEnd rfl rfl rfl hd_X6_runEnd ⟨(Nat.le_of_ble_eq_true rfl), (Nat.le_of_ble_eq_true rfl)⟩) hW (kS_in (by decide)) rfl rfl rfl hl.1 (Nat.le_of_ble_eq_true rfl) ⟨Nat.zero_le _, Nat.zero_le _⟩ dX6_next_10 (fun H locs hW => ?_)
  refine pf_X6_place hx hb hts hown hW (kS_in (by decide)) iX6 (List.mem_of_getElem? (i := 2) rfl) dX6_next_13 (fun H locs hW => ?_)
  refine lv_aload_n hx hb dX6_next_16 rfl (lv_at hl 0 rfl) ?_
  refine gf_X6_place hx hb hts hown hW (kS_in (by decide)) iX6 (List.mem_of_getElem? (i := 2) rfl) dX6_next_17 ?_
  refine lv_aload_n hx hb dX6_next_20 rfl (lv_at hl 0 rfl) ?_
  refine gf_X6_size hx hb hts hown hW (kS_in (by decide)) iX6 (List.mem_of_getElem? (i := 3) rfl) dX6_next_21 ?_
  refine lv_icmp_lt (tgt := 33) hx hb dX6_next_24 (by decide) (fun q2 => ?_) (fun q2 => ?_)
  · rw [if_pos q2] at hf
    refine lv_aload_n hx hb dX6_next_33 rfl (lv_at hl 0 rfl) ?_
    refine gf_X6_bytes hx hb hts hown hW (kS_in (by decide)) iX6 (List.mem_of_getElem? (i := 5) rfl) dX6_next_34 ?_
    refine lv_aload_n hx hb dX6_next_37 rfl (lv_at hl 0 rfl) ?_
    refine gf_X6_place hx hb hts hown hW (kS_in (by decide)) iX6 (List.mem_of_getElem? (i := 2) rfl) dX6_next_38 ?_
    obtain ⟨g3, hf⟩ := ss_if hf
    refine ra_i hx hb hW (kS_in (by decide)) g3 dX6_next_41 ?_
    refine lv_istore_n (lv' := [(1, .int (sA (sGu σ1 12 0 r1) 11 0 ((sG (sGu σ1 12 0 r1) 12 0)).toNatClampNeg)), (0, .ref (A 0 5 0))]) hx hb dX6_next_42 rfl hl (by decide) rfl (fun ls hl => ?_)
    refine lv_iload_n hx hb dX6_next_43 rfl (lv_at hl 0 rfl) ?_
    refine lv_bipush (v := (97 : Int32)) hx hb dX6_next_44 (by decide) ?_
    have J82 : ∀ (x82_1 : Int32) (σ82_ : ss_M) (H : Heap) (locs : List Loc) (ls : Array Slot), sW 0 D Y A σ82_ s s.heap H locs → lv_has ls 2 [(0, .ref (A 0 5 0)), (1, .int x82_1)] → f_X6_next_j82 x82_1 σ82_ = some σ' → W p l e rm_X6_next s m args below meth c H locs 0 0 (MQ below (Qv0 0 D Y A σ') args s 0 0 (FA 0 A)) (F0 m 82 ls []) := by
      intro x82_1 σ82_ H locs ls hW hl hf
      rw [f_X6_next_j82] at hf
      refine lv_iload_n hx hb dX6_next_82 rfl (lv_at hl 1 rfl) ?_
      refine lv_bipush (v := (48 : Int32)) hx hb dX6_next_83 (by decide) ?_
      have J121 : ∀ (σ121_ : ss_M) (H : Heap) (locs : List Loc) (ls : Array Slot), sW 0 D Y A σ121_ s s.heap H locs → lv_has ls 2 [(0, .ref (A 0 5 0)), (1, .int x82_1)] → f_X6_next_j121 x82_1 σ121_ = some σ' → W p l e rm_X6_next s m args below meth c H locs 0 0 (MQ below (Qv0 0 D Y A σ') args s 0 0 (FA 0 A)) (F0 m 121 ls []) := by
        intro σ121_ H locs ls hW hl hf
        rw [f_X6_next_j121] at hf
        refine lv_aload_n hx hb dX6_next_121 rfl (lv_at hl 0 rfl) ?_
        refine lv_aload_n hx hb dX6_next_122 rfl (lv_at hl 0 rfl) ?_
        refine gf_X6_place hx hb hts hown hW (kS_in (by decide)) iX6 (List.mem_of_getElem? (i := 2) rfl) dX6_next_123 ?_
        refine lv_iconst (v := (1 : Int32)) hx hb dX6_next_126 (by decide) ?_
        refine lv_iadd hx hb dX6_next_127 ?_
        refine pf_X6_behind hx hb hts hown hW (kS_in (by decide)) iX6 (List.mem_of_getElem? (i := 1) rfl) dX6_next_128 (fun H locs hW => ?_)
        refine lv_aload_n hx hb dX6_next_131 rfl (lv_at hl 0 rfl) ?_
        refine lv_iload_n hx hb dX6_next_132 rfl (lv_at hl 1 rfl) ?_
        refine lv_bipush (v := (59 : Int32)) hx hb dX6_next_133 (by decide) ?_
        have J144 : ∀ (s144_0 : Int32) (σ144_ : ss_M) (H : Heap) (locs : List Loc) (ls : Array Slot), sW 0 D Y A σ144_ s s.heap H locs → lv_has ls 2 [] → f_X6_next_j144 s144_0 σ144_ = some σ' → W p l e rm_X6_next s m args below meth c H locs 0 0 (MQ below (Qv0 0 D Y A σ') args s 0 0 (FA 0 A)) (F0 m 144 ls [.int s144_0, .ref (A 0 5 0)]) := by
          intro s144_0 σ144_ H locs ls hW hl hf
          rw [f_X6_next_j144] at hf
          refine pf_X6_token hx hb hts hown hW (kS_in (by decide)) iX6 (List.mem_of_getElem? (i := 4) rfl) dX6_next_144 (fun H locs hW => ?_)
          exact re_v hx hb hr hlocks hW (Option.some.inj hf) dX6_next_147
        refine lv_icmp_ne (tgt := 142) hx hb dX6_next_135 (by decide) (fun q4 => ?_) (fun q4 => ?_)
        · rw [if_neg q4] at hf
          refine lv_bipush (v := (6 : Int32)) hx hb dX6_next_142 (by decide) ?_
          exact J144 (6 : Int32) (sGu σ121_ 13 0 ((sG σ121_ 12 0) + (1 : Int32))) _ _ _ hW (lv_sub hl [] rfl) hf
        · rw [if_pos q4] at hf
          refine lv_iconst (v := (5 : Int32)) hx hb dX6_next_138 (by decide) ?_
          refine lv_goto (tgt := 144) hx hb dX6_next_139 (by decide) ?_
          exact J144 (5 : Int32) (sGu σ121_ 13 0 ((sG σ121_ 12 0) + (1 : Int32))) _ _ _ hW (lv_sub hl [] rfl) hf
      refine lv_icmp_lt (tgt := 121) hx hb dX6_next_85 (by decide) (fun q5 => ?_) (fun q5 => ?_)
      · rw [if_pos q5] at hf
        exact J121 σ82_ _ _ _ hW (lv_sub hl [0, 1] rfl) hf
      · rw [if_neg q5] at hf
        refine lv_iload_n hx hb dX6_next_88 rfl (lv_at hl 1 rfl) ?_
        refine lv_bipush (v := (57 : Int32)) hx hb dX6_next_89 (by decide) ?_
        refine lv_icmp_gt (tgt := 121) hx hb dX6_next_91 (by decide) (fun q6 => ?_) (fun q6 => ?_)
        · rw [if_pos q6] at hf
          exact J121 σ82_ _ _ _ hW (lv_sub hl [0, 1] rfl) hf
        · rw [if_neg q6] at hf
          refine lv_aload_n hx hb dX6_next_94 rfl (lv_at hl 0 rfl) ?_
          refine lv_aload_n hx hb dX6_next_95 rfl (lv_at hl 0 rfl) ?_
          refine lv_aload_n hx hb dX6_next_96 rfl (lv_at hl 0 rfl) ?_
          refine gf_X6_place hx hb hts hown hW (kS_in (by decide)) iX6 (List.mem_of_getElem? (i := 2) rfl) dX6_next_97 ?_
          refine lv_bipush (v := (48 : Int32)) hx hb dX6_next_100 (by decide) ?_
          refine lv_bipush (v := (57 : Int32)) hx hb dX6_next_102 (by decide) ?_
          obtain ⟨r7, σ7, hf7, hf⟩ := ss_bd_some hf
          refine rv_i S (c_X6_runEnd l hAD  hf7) (cwV 3 hts gX6_next_X6_runEnd rfl rfl rfl hd_X6_runEnd ⟨(Nat.le_of_ble_eq_true rfl), (Nat.le_of_ble_eq_true rfl)⟩) hW (kS_in (by decide)) rfl rfl rfl hl.1 (Nat.le_of_ble_eq_true rfl) ⟨Nat.zero_le _, Nat.zero_le _⟩ dX6_next_104 (fun H locs hW => ?_)
          refine pf_X6_behind hx hb hts hown hW (kS_in (by decide)) iX6 (List.mem_of_getElem? (i := 1) rfl) dX6_next_107 (fun H locs hW => ?_)
          refine lv_aload_n hx hb dX6_next_110 rfl (lv_at hl 0 rfl) ?_
          refine lv_aload_n hx hb dX6_next_111 rfl (lv_at hl 0 rfl) ?_
          obtain ⟨r8, σ8, hf8, hf⟩ := ss_bd_some hf
          refine rv_i S (c_X6_numberHere l hAD  hf8) (cwV 0 hts gX6_next_X6_numberHere rfl rfl rfl hd_X6_numberHere ⟨(Nat.le_of_ble_eq_true rfl), (Nat.le_of_ble_eq_true rfl)⟩) hW (kS_in (by decide)) rfl rfl rfl hl.1 (Nat.le_of_ble_eq_true rfl) ⟨Nat.zero_le _, Nat.zero_le _⟩ dX6_next_112 (fun H locs hW => ?_)
          refine pf_X6_token hx hb hts hown hW (kS_in (by decide)) iX6 (List.mem_of_getElem? (i := 4) rfl) dX6_next_115 (fun H locs hW => ?_)
          refine lv_goto (tgt := 147) hx hb dX6_next_118 (by decide) ?_
          exact re_v hx hb hr hlocks hW (Option.some.inj hf) dX6_next_147
    refine lv_icmp_lt (tgt := 82) hx hb dX6_next_46 (by decide) (fun q9 => ?_) (fun q9 => ?_)
    · rw [if_pos q9] at hf
      exact J82 (sA (sGu σ1 12 0 r1) 11 0 ((sG (sGu σ1 12 0 r1) 12 0)).toNatClampNeg) (sGu σ1 12 0 r1) _ _ _ hW (lv_sub hl [1, 0] rfl) hf
    · rw [if_neg q9] at hf
      refine lv_iload_n hx hb dX6_next_49 rfl (lv_at hl 0 rfl) ?_
      refine lv_bipush (v := (122 : Int32)) hx hb dX6_next_50 (by decide) ?_
      refine lv_icmp_gt (tgt := 82) hx hb dX6_next_52 (by decide) (fun q10 => ?_) (fun q10 => ?_)
      · rw [if_pos q10] at hf
        exact J82 (sA (sGu σ1 12 0 r1) 11 0 ((sG (sGu σ1 12 0 r1) 12 0)).toNatClampNeg) (sGu σ1 12 0 r1) _ _ _ hW (lv_sub hl [1, 0] rfl) hf
      · rw [if_neg q10] at hf
        refine lv_aload_n hx hb dX6_next_55 rfl (lv_at hl 1 rfl) ?_
        refine lv_aload_n hx hb dX6_next_56 rfl (lv_at hl 1 rfl) ?_
        refine lv_aload_n hx hb dX6_next_57 rfl (lv_at hl 1 rfl) ?_
        refine gf_X6_place hx hb hts hown hW (kS_in (by decide)) iX6 (List.mem_of_getElem? (i := 2) rfl) dX6_next_58 ?_
        refine lv_bipush (v := (97 : Int32)) hx hb dX6_next_61 (by decide) ?_
        refine lv_bipush (v := (122 : Int32)) hx hb dX6_next_63 (by decide) ?_
        obtain ⟨r11, σ11, hf11, hf⟩ := ss_bd_some hf
        refine rv_i S (c_X6_runEnd l hAD  hf11) (cwV 3 hts gX6_next_X6_runEnd rfl rfl rfl hd_X6_runEnd ⟨(Nat.le_of_ble_eq_true rfl), (Nat.le_of_ble_eq_true rfl)⟩) hW (kS_in (by decide)) rfl rfl rfl hl.1 (Nat.le_of_ble_eq_true rfl) ⟨Nat.zero_le _, Nat.zero_le _⟩ dX6_next_65 (fun H locs hW => ?_)
        refine pf_X6_behind hx hb hts hown hW (kS_in (by decide)) iX6 (List.mem_of_getElem? (i := 1) rfl) dX6_next_68 (fun H locs hW => ?_)
        refine lv_aload_n hx hb dX6_next_71 rfl (lv_at hl 1 rfl) ?_
        refine lv_aload_n hx hb dX6_next_72 rfl (lv_at hl 1 rfl) ?_
        obtain ⟨r12, σ12, hf12, hf⟩ := ss_bd_some hf
        refine rv_i S (c_X6_wordHere l hAD  hf12) (cwV 0 hts gX6_next_X6_wordHere rfl rfl rfl hd_X6_wordHere ⟨(Nat.le_of_ble_eq_true rfl), (Nat.le_of_ble_eq_true rfl)⟩) hW (kS_in (by decide)) rfl rfl rfl hl.1 (Nat.le_of_ble_eq_true rfl) ⟨Nat.zero_le _, Nat.zero_le _⟩ dX6_next_73 (fun H locs hW => ?_)
        refine pf_X6_token hx hb hts hown hW (kS_in (by decide)) iX6 (List.mem_of_getElem? (i := 4) rfl) dX6_next_76 (fun H locs hW => ?_)
        refine lv_goto (tgt := 147) hx hb dX6_next_79 (by decide) ?_
        exact re_v hx hb hr hlocks hW (Option.some.inj hf) dX6_next_147
  · rw [if_neg q2] at hf
    refine lv_aload_n hx hb dX6_next_27 rfl (lv_at hl 0 rfl) ?_
    refine lv_iconst (v := (0 : Int32)) hx hb dX6_next_28 (by decide) ?_
    refine pf_X6_token hx hb hts hown hW (kS_in (by decide)) iX6 (List.mem_of_getElem? (i := 4) rfl) dX6_next_29 (fun H locs hW => ?_)
    exact re_v hx hb hr hlocks hW (Option.some.inj hf) dX6_next_32
def f_X6_mayBegin_j39 (σ39_ : ss_M) : Option (Int32 × ss_M) :=
  some ((1 : Int32), σ39_)
def f_X6_mayBegin (σ : ss_M) : Option (Int32 × ss_M) :=
  if (sG σ 9 0) = (0 : Int32) then (if (sG σ 10 0) = (1 : Int32) then (some ((1 : Int32), σ)) else (some ((0 : Int32), σ))) else (if (sG σ 10 0) = (2 : Int32) then (f_X6_mayBegin_j39 σ) else (if (sG σ 10 0) = (3 : Int32) then (f_X6_mayBegin_j39 σ) else (some ((0 : Int32), σ))))
def rm_X6_mayBegin : Room := { frames := 0, cells := 0, slots := 0, locals := 0 }
theorem hd_X6_mayBegin : yX6_mayBegin.cls = RX6 ∧ yX6_mayBegin.cls ≠ "java/lang/invoke/MethodHandle" ∧ yX6_mayBegin.cls ≠ "java/lang/invoke/VarHandle" ∧ (parseMethodDescriptor yX6_mayBegin.desc).map (fun d => d.parameters.length) = some 0 := by decide +kernel
set_option maxHeartbeats 4000000 in
set_option maxRecDepth 100000 in
theorem c_X6_mayBegin (l : Launch) {D : va_G} {Y : Nat → ClassId} {A : ss_A} (hAD : AD 0 A)   {r : Int32} {σ σ' : ss_M} (hf : f_X6_mayBegin σ = some (r, σ')) : Met l yX6_mayBegin wsX6_mayBegin rm_X6_mayBegin (Pc0 0 D Y A σ [.ref (A 0 5 0)]) (Qi0 0 D Y A r σ') 0 0 (FA 0 A) := by
  rw [f_X6_mayBegin] at hf
  refine Met0 (cc := cX6_mayBegin) (maxL := 1) (ret := (some .boolean)) (own := RX6) (by decide +kernel) rfl hAD rfl (Nat.le_of_ble_eq_true rfl) ?_
  intro p e s m args below meth c S hr hlocks hW ls hl
  obtain ⟨hx, hb, hml, hown, hts⟩ := id S
  have iX6 : ∀ q ∈ wsX60, q ∈ wsX6_mayBegin := fun q h => List.mem_cons_of_mem _ (List.mem_append_right _ (h))
  have hl : lv_has ls 1 [(0, .ref (A 0 5 0))] := hl
  refine lv_aload_n hx hb dX6_mayBegin_0 rfl (lv_at hl 0 rfl) ?_
  refine gf_X6_items hx hb hts hown hW (kS_in (by decide)) iX6 (List.mem_of_getElem? (i := 1) rfl) dX6_mayBegin_1 ?_
  refine lv_if_ne (tgt := 23) hx hb dX6_mayBegin_4 (by decide) (fun q1 => ?_) (fun q1 => ?_)
  · rw [if_neg q1] at hf
    refine lv_aload_n hx hb dX6_mayBegin_23 rfl (lv_at hl 0 rfl) ?_
    refine gf_X6_token hx hb hts hown hW (kS_in (by decide)) iX6 (List.mem_of_getElem? (i := 2) rfl) dX6_mayBegin_24 ?_
    refine lv_iconst (v := (2 : Int32)) hx hb dX6_mayBegin_27 (by decide) ?_
    have J39 : ∀ (σ39_ : ss_M) (H : Heap) (locs : List Loc) (ls : Array Slot), sW 0 D Y A σ39_ s s.heap H locs → lv_has ls 1 [] → f_X6_mayBegin_j39 σ39_ = some (r, σ') → W p l e rm_X6_mayBegin s m args below meth c H locs 0 0 (MQ below (Qi0 0 D Y A r σ') args s 0 0 (FA 0 A)) (F0 m 39 ls []) := by
      intro σ39_ H locs ls hW hl hf
      rw [f_X6_mayBegin_j39] at hf
      refine lv_iconst (v := (1 : Int32)) hx hb dX6_mayBegin_39 (by decide) ?_
      refine lv_goto (tgt := 44) hx hb dX6_mayBegin_40 (by decide) ?_
      exact re_z hx hb hr hlocks hW (by decide) (Option.some.inj hf) dX6_mayBegin_44
    refine lv_icmp_eq (tgt := 39) hx hb dX6_mayBegin_28 (by decide) (fun q2 => ?_) (fun q2 => ?_)
    · rw [if_pos q2] at hf
      exact J39 σ _ _ _ hW (lv_sub hl [] rfl) hf
    · rw [if_neg q2] at hf
      refine lv_aload_n hx hb dX6_mayBegin_31 rfl (lv_at hl 0 rfl) ?_
      refine gf_X6_token hx hb hts hown hW (kS_in (by decide)) iX6 (List.mem_of_getElem? (i := 2) rfl) dX6_mayBegin_32 ?_
      refine lv_iconst (v := (3 : Int32)) hx hb dX6_mayBegin_35 (by decide) ?_
      refine lv_icmp_ne (tgt := 43) hx hb dX6_mayBegin_36 (by decide) (fun q3 => ?_) (fun q3 => ?_)
      · rw [if_neg q3] at hf
        refine lv_iconst (v := (0 : Int32)) hx hb dX6_mayBegin_43 (by decide) ?_
        exact re_z hx hb hr hlocks hW (by decide) (Option.some.inj hf) dX6_mayBegin_44
      · rw [if_pos q3] at hf
        exact J39 σ _ _ _ hW (lv_sub hl [] rfl) hf
  · rw [if_pos q1] at hf
    refine lv_aload_n hx hb dX6_mayBegin_7 rfl (lv_at hl 0 rfl) ?_
    refine gf_X6_token hx hb hts hown hW (kS_in (by decide)) iX6 (List.mem_of_getElem? (i := 2) rfl) dX6_mayBegin_8 ?_
    refine lv_iconst (v := (1 : Int32)) hx hb dX6_mayBegin_11 (by decide) ?_
    refine lv_icmp_ne (tgt := 19) hx hb dX6_mayBegin_12 (by decide) (fun q4 => ?_) (fun q4 => ?_)
    · rw [if_neg q4] at hf
      refine lv_iconst (v := (0 : Int32)) hx hb dX6_mayBegin_19 (by decide) ?_
      refine lv_goto (tgt := 44) hx hb dX6_mayBegin_20 (by decide) ?_
      exact re_z hx hb hr hlocks hW (by decide) (Option.some.inj hf) dX6_mayBegin_44
    · rw [if_pos q4] at hf
      refine lv_iconst (v := (1 : Int32)) hx hb dX6_mayBegin_15 (by decide) ?_
      refine lv_goto (tgt := 44) hx hb dX6_mayBegin_16 (by decide) ?_
      exact re_z hx hb hr hlocks hW (by decide) (Option.some.inj hf) dX6_mayBegin_44
def f_X6_takeItem_j73 (σ73_ : ss_M) : Option (Int32 × ss_M) :=
  if gd (sG σ73_ 9 0) 150 = true then (Option.bind (f_X6_next (sAu σ73_ 14 0 (upd (sA σ73_ 14 0) ((sG σ73_ 9 0)).toNatClampNeg (sG σ73_ 11 0)))) (fun σ6 => if (sG σ6 10 0) = (5 : Int32) then (Option.bind (f_X6_next σ6) (fun σ8 => some ((1 : Int32), σ8))) else (some ((0 : Int32), σ6)))) else none
def f_X6_takeItem_j26 (s26_0 : Int32) (σ26_ : ss_M) : Option (Int32 × ss_M) :=
  Option.bind (f_X6_next σ26_) (fun σ2 => if gd (sG σ2 9 0) 150 = true then (if (sG (sAu σ2 13 0 (upd (sA σ2 13 0) ((sG σ2 9 0)).toNatClampNeg (sG σ2 11 0))) 10 0) = (4 : Int32) then (if s26_0 = (2 : Int32) then (Option.bind (f_X6_next (sAu σ2 13 0 (upd (sA σ2 13 0) ((sG σ2 9 0)).toNatClampNeg (sG σ2 11 0)))) (fun σ10 => if (sG σ10 10 0) = (4 : Int32) then (f_X6_takeItem_j73 σ10) else (some ((0 : Int32), σ10)))) else (f_X6_takeItem_j73 (sAu σ2 13 0 (upd (sA σ2 13 0) ((sG σ2 9 0)).toNatClampNeg (sG σ2 11 0))))) else (some ((0 : Int32), (sAu σ2 13 0 (upd (sA σ2 13 0) ((sG σ2 9 0)).toNatClampNeg (sG σ2 11 0)))))) else none)
def f_X6_takeItem (σ : ss_M) : Option (Int32 × ss_M) :=
  if gd (sG σ 9 0) 150 = true then (if (sG (sAu σ 12 0 (upd (sA σ 12 0) ((sG σ 9 0)).toNatClampNeg (sG σ 10 0))) 10 0) = (2 : Int32) then (f_X6_takeItem_j26 (1 : Int32) (sAu σ 12 0 (upd (sA σ 12 0) ((sG σ 9 0)).toNatClampNeg (sG σ 10 0)))) else (f_X6_takeItem_j26 (2 : Int32) (sAu σ 12 0 (upd (sA σ 12 0) ((sG σ 9 0)).toNatClampNeg (sG σ 10 0))))) else none
def rm_X6_takeItem : Room := { frames := 14, cells := 0, slots := 0, locals := 700 }
theorem hd_X6_takeItem : yX6_takeItem.cls = RX6 ∧ yX6_takeItem.cls ≠ "java/lang/invoke/MethodHandle" ∧ yX6_takeItem.cls ≠ "java/lang/invoke/VarHandle" ∧ (parseMethodDescriptor yX6_takeItem.desc).map (fun d => d.parameters.length) = some 0 := by decide +kernel
set_option maxHeartbeats 4000000 in
set_option maxRecDepth 100000 in
theorem c_X6_takeItem (l : Launch) {D : va_G} {Y : Nat → ClassId} {A : ss_A} (hAD : AD 0 A)   {r : Int32} {σ σ' : ss_M} (hf : f_X6_takeItem σ = some (r, σ')) : Met l yX6_takeItem wsX6_takeItem rm_X6_takeItem (Pc0 0 D Y A σ [.ref (A 0 5 0)]) (Qi0 0 D Y A r σ') 0 0 (FA 0 A) := by
  rw [f_X6_takeItem] at hf
  refine Met0 (cc := cX6_takeItem) (maxL := 2) (ret := (some .boolean)) (own := RX6) (by decide +kernel) rfl hAD rfl (Nat.le_of_ble_eq_true rfl) ?_
  intro p e s m args below meth c S hr hlocks hW ls hl
  obtain ⟨hx, hb, hml, hown, hts⟩ := id S
  have iX6 : ∀ q ∈ wsX60, q ∈ wsX6_takeItem := fun q h => List.mem_cons_of_mem _ (List.mem_append_right _ (h))
  have hl : lv_has ls 2 [(0, .ref (A 0 5 0))] := hl
  refine lv_aload_n hx hb dX6_takeItem_0 rfl (lv_at hl 0 rfl) ?_
  refine gf_X6_whats hx hb hts hown hW (kS_in (by decide)) iX6 (List.mem_of_getElem? (i := 1) rfl) dX6_takeItem_1 ?_
  refine lv_aload_n hx hb dX6_takeItem_4 rfl (lv_at hl 0 rfl) ?_
  refine gf_X6_items hx hb hts hown hW (kS_in (by decide)) iX6 (List.mem_of_getElem? (i := 2) rfl) dX6_takeItem_5 ?_
  refine lv_aload_n hx hb dX6_takeItem_8 rfl (lv_at hl 0 rfl) ?_
  refine gf_X6_token hx hb hts hown hW (kS_in (by decide)) iX6 (List.mem_of_getElem? (i := 3) rfl) dX6_takeItem_9 ?_
  obtain ⟨g1, hf⟩ := ss_if hf
  refine rs_i hx hb hW (kS_in (by decide)) g1 dX6_takeItem_12 (fun H locs hW => ?_)
  refine lv_aload_n hx hb dX6_takeItem_13 rfl (lv_at hl 0 rfl) ?_
  refine gf_X6_token hx hb hts hown hW (kS_in (by decide)) iX6 (List.mem_of_getElem? (i := 3) rfl) dX6_takeItem_14 ?_
  refine lv_iconst (v := (2 : Int32)) hx hb dX6_takeItem_17 (by decide) ?_
  have J26 : ∀ (s26_0 : Int32) (σ26_ : ss_M) (H : Heap) (locs : List Loc) (ls : Array Slot), sW 0 D Y A σ26_ s s.heap H locs → lv_has ls 2 [(0, .ref (A 0 5 0))] → f_X6_takeItem_j26 s26_0 σ26_ = some (r, σ') → W p l e rm_X6_takeItem s m args below meth c H locs 0 0 (MQ below (Qi0 0 D Y A r σ') args s 0 0 (FA 0 A)) (F0 m 26 ls [.int s26_0]) := by
    intro s26_0 σ26_ H locs ls hW hl hf
    rw [f_X6_takeItem_j26] at hf
    refine lv_istore_n (lv' := [(1, .int s26_0), (0, .ref (A 0 5 0))]) hx hb dX6_takeItem_26 rfl hl (by decide) rfl (fun ls hl => ?_)
    refine lv_aload_n hx hb dX6_takeItem_27 rfl (lv_at hl 1 rfl) ?_
    obtain ⟨σ2, hf2, hf⟩ := ss_bind hf
    refine rv_v S (c_X6_next l hAD  hf2) (cwV 0 hts gX6_takeItem_X6_next rfl rfl rfl hd_X6_next ⟨(Nat.le_of_ble_eq_true rfl), (Nat.le_of_ble_eq_true rfl)⟩) hW (kS_in (by decide)) rfl rfl rfl hl.1 (Nat.le_of_ble_eq_true rfl) ⟨Nat.zero_le _, Nat.zero_le _⟩ dX6_takeItem_28 (fun H locs hW => ?_)
    refine lv_aload_n hx hb dX6_takeItem_31 rfl (lv_at hl 1 rfl) ?_
    refine gf_X6_firsts hx hb hts hown hW (kS_in (by decide)) iX6 (List.mem_of_getElem? (i := 4) rfl) dX6_takeItem_32 ?_
    refine lv_aload_n hx hb dX6_takeItem_35 rfl (lv_at hl 1 rfl) ?_
    refine gf_X6_items hx hb hts hown hW (kS_in (by decide)) iX6 (List.mem_of_getElem? (i := 2) rfl) dX6_takeItem_36 ?_
    refine lv_aload_n hx hb dX6_takeItem_39 rfl (lv_at hl 1 rfl) ?_
    refine gf_X6_value hx hb hts hown hW (kS_in (by decide)) iX6 (List.mem_of_getElem? (i := 5) rfl) dX6_takeItem_40 ?_
    obtain ⟨g3, hf⟩ := ss_if hf
    refine rs_i hx hb hW (kS_in (by decide)) g3 dX6_takeItem_43 (fun H locs hW => ?_)
    refine lv_aload_n hx hb dX6_takeItem_44 rfl (lv_at hl 1 rfl) ?_
    refine gf_X6_token hx hb hts hown hW (kS_in (by decide)) iX6 (List.mem_of_getElem? (i := 3) rfl) dX6_takeItem_45 ?_
    refine lv_iconst (v := (4 : Int32)) hx hb dX6_takeItem_48 (by decide) ?_
    refine lv_icmp_eq (tgt := 54) hx hb dX6_takeItem_49 (by decide) (fun q4 => ?_) (fun q4 => ?_)
    · rw [if_pos q4] at hf
      refine lv_iload_n hx hb dX6_takeItem_54 rfl (lv_at hl 0 rfl) ?_
      refine lv_iconst (v := (2 : Int32)) hx hb dX6_takeItem_55 (by decide) ?_
      have J73 : ∀ (σ73_ : ss_M) (H : Heap) (locs : List Loc) (ls : Array Slot), sW 0 D Y A σ73_ s s.heap H locs → lv_has ls 2 [(0, .ref (A 0 5 0))] → f_X6_takeItem_j73 σ73_ = some (r, σ') → W p l e rm_X6_takeItem s m args below meth c H locs 0 0 (MQ below (Qi0 0 D Y A r σ') args s 0 0 (FA 0 A)) (F0 m 73 ls []) := by
        intro σ73_ H locs ls hW hl hf
        rw [f_X6_takeItem_j73] at hf
        refine lv_aload_n hx hb dX6_takeItem_73 rfl (lv_at hl 0 rfl) ?_
        refine gf_X6_seconds hx hb hts hown hW (kS_in (by decide)) iX6 (List.mem_of_getElem? (i := 6) rfl) dX6_takeItem_74 ?_
        refine lv_aload_n hx hb dX6_takeItem_77 rfl (lv_at hl 0 rfl) ?_
        refine gf_X6_items hx hb hts hown hW (kS_in (by decide)) iX6 (List.mem_of_getElem? (i := 2) rfl) dX6_takeItem_78 ?_
        refine lv_aload_n hx hb dX6_takeItem_81 rfl (lv_at hl 0 rfl) ?_
        refine gf_X6_value hx hb hts hown hW (kS_in (by decide)) iX6 (List.mem_of_getElem? (i := 5) rfl) dX6_takeItem_82 ?_
        obtain ⟨g5, hf⟩ := ss_if hf
        refine rs_i hx hb hW (kS_in (by decide)) g5 dX6_takeItem_85 (fun H locs hW => ?_)
        refine lv_aload_n hx hb dX6_takeItem_86 rfl (lv_at hl 0 rfl) ?_
        obtain ⟨σ6, hf6, hf⟩ := ss_bind hf
        refine rv_v S (c_X6_next l hAD  hf6) (cwV 0 hts gX6_takeItem_X6_next rfl rfl rfl hd_X6_next ⟨(Nat.le_of_ble_eq_true rfl), (Nat.le_of_ble_eq_true rfl)⟩) hW (kS_in (by decide)) rfl rfl rfl hl.1 (Nat.le_of_ble_eq_true rfl) ⟨Nat.zero_le _, Nat.zero_le _⟩ dX6_takeItem_87 (fun H locs hW => ?_)
        refine lv_aload_n hx hb dX6_takeItem_90 rfl (lv_at hl 0 rfl) ?_
        refine gf_X6_token hx hb hts hown hW (kS_in (by decide)) iX6 (List.mem_of_getElem? (i := 3) rfl) dX6_takeItem_91 ?_
        refine lv_iconst (v := (5 : Int32)) hx hb dX6_takeItem_94 (by decide) ?_
        refine lv_icmp_eq (tgt := 100) hx hb dX6_takeItem_95 (by decide) (fun q7 => ?_) (fun q7 => ?_)
        · rw [if_pos q7] at hf
          refine lv_aload_n hx hb dX6_takeItem_100 rfl (lv_at hl 0 rfl) ?_
          obtain ⟨σ8, hf8, hf⟩ := ss_bind hf
          refine rv_v S (c_X6_next l hAD  hf8) (cwV 0 hts gX6_takeItem_X6_next rfl rfl rfl hd_X6_next ⟨(Nat.le_of_ble_eq_true rfl), (Nat.le_of_ble_eq_true rfl)⟩) hW (kS_in (by decide)) rfl rfl rfl hl.1 (Nat.le_of_ble_eq_true rfl) ⟨Nat.zero_le _, Nat.zero_le _⟩ dX6_takeItem_101 (fun H locs hW => ?_)
          refine lv_iconst (v := (1 : Int32)) hx hb dX6_takeItem_104 (by decide) ?_
          exact re_z hx hb hr hlocks hW (by decide) (Option.some.inj hf) dX6_takeItem_105
        · rw [if_neg q7] at hf
          refine lv_iconst (v := (0 : Int32)) hx hb dX6_takeItem_98 (by decide) ?_
          exact re_z hx hb hr hlocks hW (by decide) (Option.some.inj hf) dX6_takeItem_99
      refine lv_icmp_ne (tgt := 73) hx hb dX6_takeItem_56 (by decide) (fun q9 => ?_) (fun q9 => ?_)
      · rw [if_neg q9] at hf
        exact J73 (sAu σ2 13 0 (upd (sA σ2 13 0) ((sG σ2 9 0)).toNatClampNeg (sG σ2 11 0))) _ _ _ hW (lv_sub hl [1] rfl) hf
      · rw [if_pos q9] at hf
        refine lv_aload_n hx hb dX6_takeItem_59 rfl (lv_at hl 1 rfl) ?_
        obtain ⟨σ10, hf10, hf⟩ := ss_bind hf
        refine rv_v S (c_X6_next l hAD  hf10) (cwV 0 hts gX6_takeItem_X6_next rfl rfl rfl hd_X6_next ⟨(Nat.le_of_ble_eq_true rfl), (Nat.le_of_ble_eq_true rfl)⟩) hW (kS_in (by decide)) rfl rfl rfl hl.1 (Nat.le_of_ble_eq_true rfl) ⟨Nat.zero_le _, Nat.zero_le _⟩ dX6_takeItem_60 (fun H locs hW => ?_)
        refine lv_aload_n hx hb dX6_takeItem_63 rfl (lv_at hl 1 rfl) ?_
        refine gf_X6_token hx hb hts hown hW (kS_in (by decide)) iX6 (List.mem_of_getElem? (i := 3) rfl) dX6_takeItem_64 ?_
        refine lv_iconst (v := (4 : Int32)) hx hb dX6_takeItem_67 (by decide) ?_
        refine lv_icmp_eq (tgt := 73) hx hb dX6_takeItem_68 (by decide) (fun q11 => ?_) (fun q11 => ?_)
        · rw [if_pos q11] at hf
          exact J73 σ10 _ _ _ hW (lv_sub hl [1] rfl) hf
        · rw [if_neg q11] at hf
          refine lv_iconst (v := (0 : Int32)) hx hb dX6_takeItem_71 (by decide) ?_
          exact re_z hx hb hr hlocks hW (by decide) (Option.some.inj hf) dX6_takeItem_72
    · rw [if_neg q4] at hf
      refine lv_iconst (v := (0 : Int32)) hx hb dX6_takeItem_52 (by decide) ?_
      exact re_z hx hb hr hlocks hW (by decide) (Option.some.inj hf) dX6_takeItem_53
  refine lv_icmp_ne (tgt := 25) hx hb dX6_takeItem_18 (by decide) (fun q12 => ?_) (fun q12 => ?_)
  · rw [if_neg q12] at hf
    refine lv_iconst (v := (2 : Int32)) hx hb dX6_takeItem_25 (by decide) ?_
    exact J26 (2 : Int32) (sAu σ 12 0 (upd (sA σ 12 0) ((sG σ 9 0)).toNatClampNeg (sG σ 10 0))) _ _ _ hW (lv_sub hl [0] rfl) hf
  · rw [if_pos q12] at hf
    refine lv_iconst (v := (1 : Int32)) hx hb dX6_takeItem_21 (by decide) ?_
    refine lv_goto (tgt := 26) hx hb dX6_takeItem_22 (by decide) ?_
    exact J26 (1 : Int32) (sAu σ 12 0 (upd (sA σ 12 0) ((sG σ 9 0)).toNatClampNeg (sG σ 10 0))) _ _ _ hW (lv_sub hl [0] rfl) hf
def f_X6_findFault_j63 (σ63_ : ss_M) : Option (Int32 × ss_M) :=
  if (sG σ63_ 9 0) = (0 : Int32) then (some ((sG σ63_ 8 0), σ63_)) else (some ((-1 : Int32), σ63_))
def f_X6_findFault_j45 (σ45_ : ss_M) : Option (Int32 × ss_M) :=
  some ((sG σ45_ 12 0), σ45_)
def f_X6_findFault_L14 (k14_63 : ss_M → Option (Int32 × ss_M)) (k14_45 : ss_M → Option (Int32 × ss_M)) : Nat → ss_M → Option (Int32 × ss_M)
  | 0, _ => none
  | n14 + 1, σ14_ => if (150 : Int32) ≤ (sG σ14_ 9 0) then (k14_63 σ14_) else (if (sG σ14_ 10 0) = (0 : Int32) then (k14_63 σ14_) else (ss_bd (f_X6_mayBegin σ14_) (fun r5 σ5 => if r5 = (0 : Int32) then (k14_45 σ5) else (ss_bd (f_X6_takeItem σ5) (fun r7 σ7 => if r7 = (0 : Int32) then (k14_45 σ7) else ((f_X6_findFault_L14 k14_63 k14_45 n14) (sGu σ7 9 0 ((sG σ7 9 0) + (1 : Int32)))))))))
def f_X6_findFault (σ : ss_M) : Option (Int32 × ss_M) :=
  Option.bind (f_X6_next (sGu σ 13 0 (0 : Int32))) (fun σ1 => f_X6_findFault_L14 (f_X6_findFault_j63) (f_X6_findFault_j45) FU (sGu σ1 9 0 (0 : Int32)))
def rm_X6_findFault : Room := { frames := 16, cells := 0, slots := 0, locals := 800 }
theorem hd_X6_findFault : yX6_findFault.cls = RX6 ∧ yX6_findFault.cls ≠ "java/lang/invoke/MethodHandle" ∧ yX6_findFault.cls ≠ "java/lang/invoke/VarHandle" ∧ (parseMethodDescriptor yX6_findFault.desc).map (fun d => d.parameters.length) = some 0 := by decide +kernel
set_option maxHeartbeats 4000000 in
set_option maxRecDepth 100000 in
theorem c_X6_findFault (l : Launch) {D : va_G} {Y : Nat → ClassId} {A : ss_A} (hAD : AD 0 A)   {r : Int32} {σ σ' : ss_M} (hf : f_X6_findFault σ = some (r, σ')) : Met l yX6_findFault wsX6_findFault rm_X6_findFault (Pc0 0 D Y A σ [.ref (A 0 5 0)]) (Qi0 0 D Y A r σ') 0 0 (FA 0 A) := by
  rw [f_X6_findFault] at hf
  refine Met0 (cc := cX6_findFault) (maxL := 1) (ret := (some .int)) (own := RX6) (by decide +kernel) rfl hAD rfl (Nat.le_of_ble_eq_true rfl) ?_
  intro p e s m args below meth c S hr hlocks hW ls hl
  obtain ⟨hx, hb, hml, hown, hts⟩ := id S
  have iX6 : ∀ q ∈ wsX60, q ∈ wsX6_findFault := fun q h => List.mem_cons_of_mem _ (List.mem_append_right _ (h))
  have hl : lv_has ls 1 [(0, .ref (A 0 5 0))] := hl
  refine lv_aload_n hx hb dX6_findFault_0 rfl (lv_at hl 0 rfl) ?_
  refine lv_iconst (v := (0 : Int32)) hx hb dX6_findFault_1 (by decide) ?_
  refine pf_X6_behind hx hb hts hown hW (kS_in (by decide)) iX6 (List.mem_of_getElem? (i := 1) rfl) dX6_findFault_2 (fun H locs hW => ?_)
  refine lv_aload_n hx hb dX6_findFault_5 rfl (lv_at hl 0 rfl) ?_
  obtain ⟨σ1, hf1, hf⟩ := ss_bind hf
  refine rv_v S (c_X6_next l hAD  hf1) (cwV 0 hts gX6_findFault_X6_next rfl rfl rfl hd_X6_next ⟨(Nat.le_of_ble_eq_true rfl), (Nat.le_of_ble_eq_true rfl)⟩) hW (kS_in (by decide)) rfl rfl rfl hl.1 (Nat.le_of_ble_eq_true rfl) ⟨Nat.zero_le _, Nat.zero_le _⟩ dX6_findFault_6 (fun H locs hW => ?_)
  refine lv_aload_n hx hb dX6_findFault_9 rfl (lv_at hl 0 rfl) ?_
  refine lv_iconst (v := (0 : Int32)) hx hb dX6_findFault_10 (by decide) ?_
  refine pf_X6_items hx hb hts hown hW (kS_in (by decide)) iX6 (List.mem_of_getElem? (i := 2) rfl) dX6_findFault_11 (fun H locs hW => ?_)
  have J63 : ∀ (σ63_ : ss_M) (H : Heap) (locs : List Loc) (ls : Array Slot), sW 0 D Y A σ63_ s s.heap H locs → lv_has ls 1 [(0, .ref (A 0 5 0))] → f_X6_findFault_j63 σ63_ = some (r, σ') → W p l e rm_X6_findFault s m args below meth c H locs 0 0 (MQ below (Qi0 0 D Y A r σ') args s 0 0 (FA 0 A)) (F0 m 63 ls []) := by
    intro σ63_ H locs ls hW hl hf
    rw [f_X6_findFault_j63] at hf
    refine lv_aload_n hx hb dX6_findFault_63 rfl (lv_at hl 0 rfl) ?_
    refine gf_X6_items hx hb hts hown hW (kS_in (by decide)) iX6 (List.mem_of_getElem? (i := 2) rfl) dX6_findFault_64 ?_
    refine lv_if_ne (tgt := 77) hx hb dX6_findFault_67 (by decide) (fun q2 => ?_) (fun q2 => ?_)
    · rw [if_neg q2] at hf
      refine lv_iconst (v := (-1 : Int32)) hx hb dX6_findFault_77 (by decide) ?_
      exact re_i hx hb hr hlocks hW (Option.some.inj hf) dX6_findFault_78
    · rw [if_pos q2] at hf
      refine lv_aload_n hx hb dX6_findFault_70 rfl (lv_at hl 0 rfl) ?_
      refine gf_X6_size hx hb hts hown hW (kS_in (by decide)) iX6 (List.mem_of_getElem? (i := 5) rfl) dX6_findFault_71 ?_
      refine lv_goto (tgt := 78) hx hb dX6_findFault_74 (by decide) ?_
      exact re_i hx hb hr hlocks hW (Option.some.inj hf) dX6_findFault_78
  have J45 : ∀ (σ45_ : ss_M) (H : Heap) (locs : List Loc) (ls : Array Slot), sW 0 D Y A σ45_ s s.heap H locs → lv_has ls 1 [(0, .ref (A 0 5 0))] → f_X6_findFault_j45 σ45_ = some (r, σ') → W p l e rm_X6_findFault s m args below meth c H locs 0 0 (MQ below (Qi0 0 D Y A r σ') args s 0 0 (FA 0 A)) (F0 m 45 ls []) := by
    intro σ45_ H locs ls hW hl hf
    rw [f_X6_findFault_j45] at hf
    refine lv_aload_n hx hb dX6_findFault_45 rfl (lv_at hl 0 rfl) ?_
    refine gf_X6_place hx hb hts hown hW (kS_in (by decide)) iX6 (List.mem_of_getElem? (i := 4) rfl) dX6_findFault_46 ?_
    exact re_i hx hb hr hlocks hW (Option.some.inj hf) dX6_findFault_49
  have L14 : ∀ (n14 : Nat), ∀ (σ14_ : ss_M) (H : Heap) (locs : List Loc) (ls : Array Slot), sW 0 D Y A σ14_ s s.heap H locs → lv_has ls 1 [(0, .ref (A 0 5 0))] → f_X6_findFault_L14 (f_X6_findFault_j63) (f_X6_findFault_j45) n14 σ14_ = some (r, σ') → W p l e rm_X6_findFault s m args below meth c H locs 0 0 (MQ below (Qi0 0 D Y A r σ') args s 0 0 (FA 0 A)) (F0 m 14 ls []) := by
    intro n14
    induction n14 with
    | zero =>
      intro σ14_ H locs ls hW hl hf
      rw [f_X6_findFault_L14] at hf
      cases hf
    | succ n14 ih14 =>
      intro σ14_ H locs ls hW hl hf
      rw [f_X6_findFault_L14] at hf
      refine lv_aload_n hx hb dX6_findFault_14 rfl (lv_at hl 0 rfl) ?_
      refine gf_X6_items hx hb hts hown hW (kS_in (by decide)) iX6 (List.mem_of_getElem? (i := 2) rfl) dX6_findFault_15 ?_
      refine lv_sipush (v := (150 : Int32)) hx hb dX6_findFault_18 (by decide) ?_
      refine lv_icmp_ge (tgt := 63) hx hb dX6_findFault_21 (by decide) (fun q3 => ?_) (fun q3 => ?_)
      · rw [if_pos q3] at hf
        exact J63 σ14_ _ _ _ hW (lv_sub hl [0] rfl) hf
      · rw [if_neg q3] at hf
        refine lv_aload_n hx hb dX6_findFault_24 rfl (lv_at hl 0 rfl) ?_
        refine gf_X6_token hx hb hts hown hW (kS_in (by decide)) iX6 (List.mem_of_getElem? (i := 3) rfl) dX6_findFault_25 ?_
        refine lv_if_eq (tgt := 63) hx hb dX6_findFault_28 (by decide) (fun q4 => ?_) (fun q4 => ?_)
        · rw [if_pos q4] at hf
          exact J63 σ14_ _ _ _ hW (lv_sub hl [0] rfl) hf
        · rw [if_neg q4] at hf
          refine lv_aload_n hx hb dX6_findFault_31 rfl (lv_at hl 0 rfl) ?_
          obtain ⟨r5, σ5, hf5, hf⟩ := ss_bd_some hf
          refine rv_i S (c_X6_mayBegin l hAD  hf5) (cwV 0 hts gX6_findFault_X6_mayBegin rfl rfl rfl hd_X6_mayBegin ⟨(Nat.le_of_ble_eq_true rfl), (Nat.le_of_ble_eq_true rfl)⟩) hW (kS_in (by decide)) rfl rfl rfl hl.1 (Nat.le_of_ble_eq_true rfl) ⟨Nat.zero_le _, Nat.zero_le _⟩ dX6_findFault_32 (fun H locs hW => ?_)
          refine lv_if_eq (tgt := 45) hx hb dX6_findFault_35 (by decide) (fun q6 => ?_) (fun q6 => ?_)
          · rw [if_pos q6] at hf
            exact J45 σ5 _ _ _ hW (lv_sub hl [0] rfl) hf
          · rw [if_neg q6] at hf
            refine lv_aload_n hx hb dX6_findFault_38 rfl (lv_at hl 0 rfl) ?_
            obtain ⟨r7, σ7, hf7, hf⟩ := ss_bd_some hf
            refine rv_i S (c_X6_takeItem l hAD  hf7) (cwV 0 hts gX6_findFault_X6_takeItem rfl rfl rfl hd_X6_takeItem ⟨(Nat.le_of_ble_eq_true rfl), (Nat.le_of_ble_eq_true rfl)⟩) hW (kS_in (by decide)) rfl rfl rfl hl.1 (Nat.le_of_ble_eq_true rfl) ⟨Nat.zero_le _, Nat.zero_le _⟩ dX6_findFault_39 (fun H locs hW => ?_)
            refine lv_if_ne (tgt := 50) hx hb dX6_findFault_42 (by decide) (fun q8 => ?_) (fun q8 => ?_)
            · rw [if_neg q8] at hf
              refine lv_aload_n hx hb dX6_findFault_50 rfl (lv_at hl 0 rfl) ?_
              refine lv_dup hx hb dX6_findFault_51 rfl ?_
              refine gf_X6_items hx hb hts hown hW (kS_in (by decide)) iX6 (List.mem_of_getElem? (i := 2) rfl) dX6_findFault_52 ?_
              refine lv_iconst (v := (1 : Int32)) hx hb dX6_findFault_55 (by decide) ?_
              refine lv_iadd hx hb dX6_findFault_56 ?_
              refine pf_X6_items hx hb hts hown hW (kS_in (by decide)) iX6 (List.mem_of_getElem? (i := 2) rfl) dX6_findFault_57 (fun H locs hW => ?_)
              refine lv_goto (tgt := 14) hx hb dX6_findFault_60 (by decide) ?_
              exact ih14 (sGu σ7 9 0 ((sG σ7 9 0) + (1 : Int32))) _ _ _ hW (lv_sub hl [0] rfl) hf
            · rw [if_pos q8] at hf
              exact J45 σ7 _ _ _ hW (lv_sub hl [0] rfl) hf
  exact L14 FU (sGu σ1 9 0 (0 : Int32)) _ _ _ hW (lv_sub hl [0] rfl) hf
