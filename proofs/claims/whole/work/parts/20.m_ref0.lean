def f_X8_bad (σ : ss_M) : Option (Int32 × ss_M) :=
  if gd (0 : Int32) 3 = true then (if gd (0 : Int32) 3 = true then (some ((-2 : Int32), (sAu σ 16 0 (upd (sA σ 16 0) ((0 : Int32)).toNatClampNeg ((sA σ 16 0 ((0 : Int32)).toNatClampNeg) + (1 : Int32)))))) else none) else none
def rm_X8_bad : Room := { frames := 0, cells := 0, slots := 0, locals := 0 }
theorem hd_X8_bad : yX8_bad.cls = RX8 ∧ yX8_bad.cls ≠ "java/lang/invoke/MethodHandle" ∧ yX8_bad.cls ≠ "java/lang/invoke/VarHandle" ∧ (parseMethodDescriptor yX8_bad.desc).map (fun d => d.parameters.length) = some 0 := by decide +kernel
set_option maxHeartbeats 4000000 in
set_option maxRecDepth 100000 in
theorem c_X8_bad (l : Launch) {D : va_G} {Y : Nat → ClassId} {A : ss_A} (hAD : AD 1 A)   {r : Int32} {σ σ' : ss_M} (hf : f_X8_bad σ = some (r, σ')) : Met l yX8_bad wsX8_bad rm_X8_bad (Pc0 1 D Y A σ [.ref (A 0 7 0)]) (Qi0 1 D Y A r σ') 0 0 (FA 1 A) := by
  rw [f_X8_bad] at hf
  refine Met0 (cc := cX8_bad) (maxL := 1) (ret := (some .int)) (own := RX8) (by decide +kernel) rfl hAD rfl (Nat.le_of_ble_eq_true rfl) ?_
  intro p e s m args below meth c S hr hlocks hW ls hl
  obtain ⟨hx, hb, hml, hown, hts⟩ := id S
  have iX8 : ∀ q ∈ wsX80, q ∈ wsX8_bad := fun q h => List.mem_cons_of_mem _ (List.mem_append_right _ (h))
  have hl : lv_has ls 1 [(0, .ref (A 0 7 0))] := hl
  refine lv_aload_n hx hb dX8_bad_0 rfl (lv_at hl 0 rfl) ?_
  refine gf_X8_refused hx hb hts hown hW (kS_in (by decide)) iX8 (List.mem_of_getElem? (i := 1) rfl) dX8_bad_1 ?_
  refine lv_iconst (v := (0 : Int32)) hx hb dX8_bad_4 (by decide) ?_
  refine lv_dup2_11 hx hb dX8_bad_5 rfl rfl ?_
  obtain ⟨g1, hf⟩ := ss_if hf
  refine ra_i hx hb hW (kS_in (by decide)) g1 dX8_bad_6 ?_
  refine lv_iconst (v := (1 : Int32)) hx hb dX8_bad_7 (by decide) ?_
  refine lv_iadd hx hb dX8_bad_8 ?_
  obtain ⟨g2, hf⟩ := ss_if hf
  refine rs_i hx hb hW (kS_in (by decide)) g2 dX8_bad_9 (fun H locs hW => ?_)
  refine lv_bipush (v := (-2 : Int32)) hx hb dX8_bad_10 (by decide) ?_
  exact re_i hx hb hr hlocks hW (Option.some.inj hf) dX8_bad_12
def f_X8_ten (σ : ss_M) : Option (Int32 × ss_M) :=
  if gd (0 : Int32) 3 = true then (if gd (0 : Int32) 3 = true then (some ((-10 : Int32), (sAu σ 16 0 (upd (sA σ 16 0) ((0 : Int32)).toNatClampNeg ((sA σ 16 0 ((0 : Int32)).toNatClampNeg) + (1 : Int32)))))) else none) else none
def rm_X8_ten : Room := { frames := 0, cells := 0, slots := 0, locals := 0 }
theorem hd_X8_ten : yX8_ten.cls = RX8 ∧ yX8_ten.cls ≠ "java/lang/invoke/MethodHandle" ∧ yX8_ten.cls ≠ "java/lang/invoke/VarHandle" ∧ (parseMethodDescriptor yX8_ten.desc).map (fun d => d.parameters.length) = some 0 := by decide +kernel
set_option maxHeartbeats 4000000 in
set_option maxRecDepth 100000 in
theorem c_X8_ten (l : Launch) {D : va_G} {Y : Nat → ClassId} {A : ss_A} (hAD : AD 1 A)   {r : Int32} {σ σ' : ss_M} (hf : f_X8_ten σ = some (r, σ')) : Met l yX8_ten wsX8_ten rm_X8_ten (Pc0 1 D Y A σ [.ref (A 0 7 0)]) (Qi0 1 D Y A r σ') 0 0 (FA 1 A) := by
  rw [f_X8_ten] at hf
  refine Met0 (cc := cX8_ten) (maxL := 1) (ret := (some .int)) (own := RX8) (by decide +kernel) rfl hAD rfl (Nat.le_of_ble_eq_true rfl) ?_
  intro p e s m args below meth c S hr hlocks hW ls hl
  obtain ⟨hx, hb, hml, hown, hts⟩ := id S
  have iX8 : ∀ q ∈ wsX80, q ∈ wsX8_ten := fun q h => List.mem_cons_of_mem _ (List.mem_append_right _ (h))
  have hl : lv_has ls 1 [(0, .ref (A 0 7 0))] := hl
  refine lv_aload_n hx hb dX8_ten_0 rfl (lv_at hl 0 rfl) ?_
  refine gf_X8_refused hx hb hts hown hW (kS_in (by decide)) iX8 (List.mem_of_getElem? (i := 1) rfl) dX8_ten_1 ?_
  refine lv_iconst (v := (0 : Int32)) hx hb dX8_ten_4 (by decide) ?_
  refine lv_dup2_11 hx hb dX8_ten_5 rfl rfl ?_
  obtain ⟨g1, hf⟩ := ss_if hf
  refine ra_i hx hb hW (kS_in (by decide)) g1 dX8_ten_6 ?_
  refine lv_iconst (v := (1 : Int32)) hx hb dX8_ten_7 (by decide) ?_
  refine lv_iadd hx hb dX8_ten_8 ?_
  obtain ⟨g2, hf⟩ := ss_if hf
  refine rs_i hx hb hW (kS_in (by decide)) g2 dX8_ten_9 (fun H locs hW => ?_)
  refine lv_bipush (v := (-10 : Int32)) hx hb dX8_ten_10 (by decide) ?_
  exact re_i hx hb hr hlocks hW (Option.some.inj hf) dX8_ten_12
def f_X8_twenty (σ : ss_M) : Option (Int32 × ss_M) :=
  if gd (1 : Int32) 3 = true then (if gd (1 : Int32) 3 = true then (some ((-20 : Int32), (sAu σ 16 0 (upd (sA σ 16 0) ((1 : Int32)).toNatClampNeg ((sA σ 16 0 ((1 : Int32)).toNatClampNeg) + (1 : Int32)))))) else none) else none
def rm_X8_twenty : Room := { frames := 0, cells := 0, slots := 0, locals := 0 }
theorem hd_X8_twenty : yX8_twenty.cls = RX8 ∧ yX8_twenty.cls ≠ "java/lang/invoke/MethodHandle" ∧ yX8_twenty.cls ≠ "java/lang/invoke/VarHandle" ∧ (parseMethodDescriptor yX8_twenty.desc).map (fun d => d.parameters.length) = some 0 := by decide +kernel
set_option maxHeartbeats 4000000 in
set_option maxRecDepth 100000 in
theorem c_X8_twenty (l : Launch) {D : va_G} {Y : Nat → ClassId} {A : ss_A} (hAD : AD 1 A)   {r : Int32} {σ σ' : ss_M} (hf : f_X8_twenty σ = some (r, σ')) : Met l yX8_twenty wsX8_twenty rm_X8_twenty (Pc0 1 D Y A σ [.ref (A 0 7 0)]) (Qi0 1 D Y A r σ') 0 0 (FA 1 A) := by
  rw [f_X8_twenty] at hf
  refine Met0 (cc := cX8_twenty) (maxL := 1) (ret := (some .int)) (own := RX8) (by decide +kernel) rfl hAD rfl (Nat.le_of_ble_eq_true rfl) ?_
  intro p e s m args below meth c S hr hlocks hW ls hl
  obtain ⟨hx, hb, hml, hown, hts⟩ := id S
  have iX8 : ∀ q ∈ wsX80, q ∈ wsX8_twenty := fun q h => List.mem_cons_of_mem _ (List.mem_append_right _ (h))
  have hl : lv_has ls 1 [(0, .ref (A 0 7 0))] := hl
  refine lv_aload_n hx hb dX8_twenty_0 rfl (lv_at hl 0 rfl) ?_
  refine gf_X8_refused hx hb hts hown hW (kS_in (by decide)) iX8 (List.mem_of_getElem? (i := 1) rfl) dX8_twenty_1 ?_
  refine lv_iconst (v := (1 : Int32)) hx hb dX8_twenty_4 (by decide) ?_
  refine lv_dup2_11 hx hb dX8_twenty_5 rfl rfl ?_
  obtain ⟨g1, hf⟩ := ss_if hf
  refine ra_i hx hb hW (kS_in (by decide)) g1 dX8_twenty_6 ?_
  refine lv_iconst (v := (1 : Int32)) hx hb dX8_twenty_7 (by decide) ?_
  refine lv_iadd hx hb dX8_twenty_8 ?_
  obtain ⟨g2, hf⟩ := ss_if hf
  refine rs_i hx hb hW (kS_in (by decide)) g2 dX8_twenty_9 (fun H locs hW => ?_)
  refine lv_bipush (v := (-20 : Int32)) hx hb dX8_twenty_10 (by decide) ?_
  exact re_i hx hb hr hlocks hW (Option.some.inj hf) dX8_twenty_12
def f_X8_no (σ : ss_M) : Option (Int32 × ss_M) :=
  if gd (1 : Int32) 3 = true then (if gd (1 : Int32) 3 = true then (some ((-3 : Int32), (sAu σ 16 0 (upd (sA σ 16 0) ((1 : Int32)).toNatClampNeg ((sA σ 16 0 ((1 : Int32)).toNatClampNeg) + (1 : Int32)))))) else none) else none
def rm_X8_no : Room := { frames := 0, cells := 0, slots := 0, locals := 0 }
theorem hd_X8_no : yX8_no.cls = RX8 ∧ yX8_no.cls ≠ "java/lang/invoke/MethodHandle" ∧ yX8_no.cls ≠ "java/lang/invoke/VarHandle" ∧ (parseMethodDescriptor yX8_no.desc).map (fun d => d.parameters.length) = some 0 := by decide +kernel
set_option maxHeartbeats 4000000 in
set_option maxRecDepth 100000 in
theorem c_X8_no (l : Launch) {D : va_G} {Y : Nat → ClassId} {A : ss_A} (hAD : AD 1 A)   {r : Int32} {σ σ' : ss_M} (hf : f_X8_no σ = some (r, σ')) : Met l yX8_no wsX8_no rm_X8_no (Pc0 1 D Y A σ [.ref (A 0 7 0)]) (Qi0 1 D Y A r σ') 0 0 (FA 1 A) := by
  rw [f_X8_no] at hf
  refine Met0 (cc := cX8_no) (maxL := 1) (ret := (some .int)) (own := RX8) (by decide +kernel) rfl hAD rfl (Nat.le_of_ble_eq_true rfl) ?_
  intro p e s m args below meth c S hr hlocks hW ls hl
  obtain ⟨hx, hb, hml, hown, hts⟩ := id S
  have iX8 : ∀ q ∈ wsX80, q ∈ wsX8_no := fun q h => List.mem_cons_of_mem _ (List.mem_append_right _ (h))
  have hl : lv_has ls 1 [(0, .ref (A 0 7 0))] := hl
  refine lv_aload_n hx hb dX8_no_0 rfl (lv_at hl 0 rfl) ?_
  refine gf_X8_refused hx hb hts hown hW (kS_in (by decide)) iX8 (List.mem_of_getElem? (i := 1) rfl) dX8_no_1 ?_
  refine lv_iconst (v := (1 : Int32)) hx hb dX8_no_4 (by decide) ?_
  refine lv_dup2_11 hx hb dX8_no_5 rfl rfl ?_
  obtain ⟨g1, hf⟩ := ss_if hf
  refine ra_i hx hb hW (kS_in (by decide)) g1 dX8_no_6 ?_
  refine lv_iconst (v := (1 : Int32)) hx hb dX8_no_7 (by decide) ?_
  refine lv_iadd hx hb dX8_no_8 ?_
  obtain ⟨g2, hf⟩ := ss_if hf
  refine rs_i hx hb hW (kS_in (by decide)) g2 dX8_no_9 (fun H locs hW => ?_)
  refine lv_bipush (v := (-3 : Int32)) hx hb dX8_no_10 (by decide) ?_
  exact re_i hx hb hr hlocks hW (Option.some.inj hf) dX8_no_12
def f_X8_full (σ : ss_M) : Option (Int32 × ss_M) :=
  if gd (2 : Int32) 3 = true then (if gd (2 : Int32) 3 = true then (some ((-4 : Int32), (sAu σ 16 0 (upd (sA σ 16 0) ((2 : Int32)).toNatClampNeg ((sA σ 16 0 ((2 : Int32)).toNatClampNeg) + (1 : Int32)))))) else none) else none
def rm_X8_full : Room := { frames := 0, cells := 0, slots := 0, locals := 0 }
theorem hd_X8_full : yX8_full.cls = RX8 ∧ yX8_full.cls ≠ "java/lang/invoke/MethodHandle" ∧ yX8_full.cls ≠ "java/lang/invoke/VarHandle" ∧ (parseMethodDescriptor yX8_full.desc).map (fun d => d.parameters.length) = some 0 := by decide +kernel
set_option maxHeartbeats 4000000 in
set_option maxRecDepth 100000 in
theorem c_X8_full (l : Launch) {D : va_G} {Y : Nat → ClassId} {A : ss_A} (hAD : AD 1 A)   {r : Int32} {σ σ' : ss_M} (hf : f_X8_full σ = some (r, σ')) : Met l yX8_full wsX8_full rm_X8_full (Pc0 1 D Y A σ [.ref (A 0 7 0)]) (Qi0 1 D Y A r σ') 0 0 (FA 1 A) := by
  rw [f_X8_full] at hf
  refine Met0 (cc := cX8_full) (maxL := 1) (ret := (some .int)) (own := RX8) (by decide +kernel) rfl hAD rfl (Nat.le_of_ble_eq_true rfl) ?_
  intro p e s m args below meth c S hr hlocks hW ls hl
  obtain ⟨hx, hb, hml, hown, hts⟩ := id S
  have iX8 : ∀ q ∈ wsX80, q ∈ wsX8_full := fun q h => List.mem_cons_of_mem _ (List.mem_append_right _ (h))
  have hl : lv_has ls 1 [(0, .ref (A 0 7 0))] := hl
  refine lv_aload_n hx hb dX8_full_0 rfl (lv_at hl 0 rfl) ?_
  refine gf_X8_refused hx hb hts hown hW (kS_in (by decide)) iX8 (List.mem_of_getElem? (i := 1) rfl) dX8_full_1 ?_
  refine lv_iconst (v := (2 : Int32)) hx hb dX8_full_4 (by decide) ?_
  refine lv_dup2_11 hx hb dX8_full_5 rfl rfl ?_
  obtain ⟨g1, hf⟩ := ss_if hf
  refine ra_i hx hb hW (kS_in (by decide)) g1 dX8_full_6 ?_
  refine lv_iconst (v := (1 : Int32)) hx hb dX8_full_7 (by decide) ?_
  refine lv_iadd hx hb dX8_full_8 ?_
  obtain ⟨g2, hf⟩ := ss_if hf
  refine rs_i hx hb hW (kS_in (by decide)) g2 dX8_full_9 (fun H locs hW => ?_)
  refine lv_bipush (v := (-4 : Int32)) hx hb dX8_full_10 (by decide) ?_
  exact re_i hx hb hr hlocks hW (Option.some.inj hf) dX8_full_12
def f_X8_in (p0 : Int32) (p1 : Int32) (p2 : Int32) (σ : ss_M) : Option (Int32 × ss_M) :=
  if p0 < p1 then (some ((0 : Int32), σ)) else (if p2 < p0 then (some ((0 : Int32), σ)) else (some ((1 : Int32), σ)))
def rm_X8_in : Room := { frames := 0, cells := 0, slots := 0, locals := 0 }
theorem hd_X8_in : yX8_in.cls ≠ "java/lang/invoke/MethodHandle" ∧ yX8_in.cls ≠ "java/lang/invoke/VarHandle" ∧ (parseMethodDescriptor yX8_in.desc).map (fun d => d.parameters.length) = some 3 := by decide +kernel
set_option maxHeartbeats 4000000 in
set_option maxRecDepth 100000 in
theorem c_X8_in (l : Launch) {D : va_G} {Y : Nat → ClassId} {A : ss_A} (hAD : AD 1 A) {p0 : Int32} {p1 : Int32} {p2 : Int32}  {r : Int32} {σ σ' : ss_M} (hf : f_X8_in p0 p1 p2 σ = some (r, σ')) : Met l yX8_in wsX8_in rm_X8_in (Pc0 1 D Y A σ [.int p0, .int p1, .int p2]) (Qi0 1 D Y A r σ') 0 0 (FA 1 A) := by
  rw [f_X8_in] at hf
  refine Met0 (cc := cX8_in) (maxL := 3) (ret := (some .boolean)) (own := RX8) (by decide +kernel) rfl hAD rfl (Nat.le_of_ble_eq_true rfl) ?_
  intro p e s m args below meth c S hr hlocks hW ls hl
  obtain ⟨hx, hb, hml, hown, hts⟩ := id S
  have hl : lv_has ls 3 [(0, .int p0), (1, .int p1), (2, .int p2)] := hl
  refine lv_iload_n hx hb dX8_in_0 rfl (lv_at hl 0 rfl) ?_
  refine lv_iload_n hx hb dX8_in_1 rfl (lv_at hl 1 rfl) ?_
  refine lv_icmp_lt (tgt := 14) hx hb dX8_in_2 (by decide) (fun q1 => ?_) (fun q1 => ?_)
  · rw [if_pos q1] at hf
    refine lv_iconst (v := (0 : Int32)) hx hb dX8_in_14 (by decide) ?_
    exact re_z hx hb hr hlocks hW (by decide) (Option.some.inj hf) dX8_in_15
  · rw [if_neg q1] at hf
    refine lv_iload_n hx hb dX8_in_5 rfl (lv_at hl 0 rfl) ?_
    refine lv_iload_n hx hb dX8_in_6 rfl (lv_at hl 2 rfl) ?_
    refine lv_icmp_gt (tgt := 14) hx hb dX8_in_7 (by decide) (fun q2 => ?_) (fun q2 => ?_)
    · rw [if_pos q2] at hf
      refine lv_iconst (v := (0 : Int32)) hx hb dX8_in_14 (by decide) ?_
      exact re_z hx hb hr hlocks hW (by decide) (Option.some.inj hf) dX8_in_15
    · rw [if_neg q2] at hf
      refine lv_iconst (v := (1 : Int32)) hx hb dX8_in_10 (by decide) ?_
      refine lv_goto (tgt := 15) hx hb dX8_in_11 (by decide) ?_
      exact re_z hx hb hr hlocks hW (by decide) (Option.some.inj hf) dX8_in_15
def f_X8_begin (p0 : Int32) (p1 : Int32) (σ : ss_M) : Option ss_M :=
  some (sGu (sGu (sGu (sGu (sGu (sGu (sGu σ 18 0 p0) 19 0 p1) 17 0 (0 : Int32)) 20 0 (0 : Int32)) 21 0 (0 : Int32)) 22 0 (0 : Int32)) 27 0 (0 : Int32))
def rm_X8_begin : Room := { frames := 0, cells := 0, slots := 0, locals := 0 }
theorem hd_X8_begin : yX8_begin.cls = RX8 ∧ yX8_begin.cls ≠ "java/lang/invoke/MethodHandle" ∧ yX8_begin.cls ≠ "java/lang/invoke/VarHandle" ∧ (parseMethodDescriptor yX8_begin.desc).map (fun d => d.parameters.length) = some 2 := by decide +kernel
set_option maxHeartbeats 4000000 in
set_option maxRecDepth 100000 in
theorem c_X8_begin (l : Launch) {D : va_G} {Y : Nat → ClassId} {A : ss_A} (hAD : AD 1 A) {p0 : Int32} {p1 : Int32}  {σ σ' : ss_M} (hf : f_X8_begin p0 p1 σ = some σ') : Met l yX8_begin wsX8_begin rm_X8_begin (Pc0 1 D Y A σ [.ref (A 0 7 0), .int p0, .int p1]) (Qv0 1 D Y A σ') 0 0 (FA 1 A) := by
  rw [f_X8_begin] at hf
  refine Met0 (cc := cX8_begin) (maxL := 3) (ret := none) (own := RX8) (by decide +kernel) rfl hAD rfl (Nat.le_of_ble_eq_true rfl) ?_
  intro p e s m args below meth c S hr hlocks hW ls hl
  obtain ⟨hx, hb, hml, hown, hts⟩ := id S
  have iX8 : ∀ q ∈ wsX80, q ∈ wsX8_begin := fun q h => List.mem_cons_of_mem _ (List.mem_append_right _ (h))
  have hl : lv_has ls 3 [(0, .ref (A 0 7 0)), (1, .int p0), (2, .int p1)] := hl
  refine lv_aload_n hx hb dX8_begin_0 rfl (lv_at hl 0 rfl) ?_
  refine lv_iload_n hx hb dX8_begin_1 rfl (lv_at hl 1 rfl) ?_
  refine pf_X8_breath hx hb hts hown hW (kS_in (by decide)) iX8 (List.mem_of_getElem? (i := 1) rfl) dX8_begin_2 (fun H locs hW => ?_)
  refine lv_aload_n hx hb dX8_begin_5 rfl (lv_at hl 0 rfl) ?_
  refine lv_iload_n hx hb dX8_begin_6 rfl (lv_at hl 2 rfl) ?_
  refine pf_X8_price hx hb hts hown hW (kS_in (by decide)) iX8 (List.mem_of_getElem? (i := 2) rfl) dX8_begin_7 (fun H locs hW => ?_)
  refine lv_aload_n hx hb dX8_begin_10 rfl (lv_at hl 0 rfl) ?_
  refine lv_iconst (v := (0 : Int32)) hx hb dX8_begin_11 (by decide) ?_
  refine pf_X8_many hx hb hts hown hW (kS_in (by decide)) iX8 (List.mem_of_getElem? (i := 3) rfl) dX8_begin_12 (fun H locs hW => ?_)
  refine lv_aload_n hx hb dX8_begin_15 rfl (lv_at hl 0 rfl) ?_
  refine lv_iconst (v := (0 : Int32)) hx hb dX8_begin_16 (by decide) ?_
  refine pf_X8_purse hx hb hts hown hW (kS_in (by decide)) iX8 (List.mem_of_getElem? (i := 4) rfl) dX8_begin_17 (fun H locs hW => ?_)
  refine lv_aload_n hx hb dX8_begin_20 rfl (lv_at hl 0 rfl) ?_
  refine lv_iconst (v := (0 : Int32)) hx hb dX8_begin_21 (by decide) ?_
  refine pf_X8_week hx hb hts hown hW (kS_in (by decide)) iX8 (List.mem_of_getElem? (i := 5) rfl) dX8_begin_22 (fun H locs hW => ?_)
  refine lv_aload_n hx hb dX8_begin_25 rfl (lv_at hl 0 rfl) ?_
  refine lv_iconst (v := (0 : Int32)) hx hb dX8_begin_26 (by decide) ?_
  refine pf_X8_heardMany hx hb hts hown hW (kS_in (by decide)) iX8 (List.mem_of_getElem? (i := 6) rfl) dX8_begin_27 (fun H locs hW => ?_)
  refine lv_aload_n hx hb dX8_begin_30 rfl (lv_at hl 0 rfl) ?_
  refine lv_iconst (v := (0 : Int32)) hx hb dX8_begin_31 (by decide) ?_
  refine pf_X8_undoMany hx hb hts hown hW (kS_in (by decide)) iX8 (List.mem_of_getElem? (i := 7) rfl) dX8_begin_32 (fun H locs hW => ?_)
  exact re_v hx hb hr hlocks hW (Option.some.inj hf) dX8_begin_35
def f_X8_isPiece (p0 : Int32) (σ : ss_M) : Option (Int32 × ss_M) :=
  ss_bd (f_X8_in p0 (0 : Int32) ((sG σ 17 0) - (1 : Int32)) σ) (fun r1 σ1 => if r1 &&& (1 : Int32) = r1 then (some (r1, σ1)) else none)
def rm_X8_isPiece : Room := { frames := 2, cells := 0, slots := 0, locals := 100 }
theorem hd_X8_isPiece : yX8_isPiece.cls = RX8 ∧ yX8_isPiece.cls ≠ "java/lang/invoke/MethodHandle" ∧ yX8_isPiece.cls ≠ "java/lang/invoke/VarHandle" ∧ (parseMethodDescriptor yX8_isPiece.desc).map (fun d => d.parameters.length) = some 1 := by decide +kernel
set_option maxHeartbeats 4000000 in
set_option maxRecDepth 100000 in
theorem c_X8_isPiece (l : Launch) {D : va_G} {Y : Nat → ClassId} {A : ss_A} (hAD : AD 1 A) {p0 : Int32}  {r : Int32} {σ σ' : ss_M} (hf : f_X8_isPiece p0 σ = some (r, σ')) : Met l yX8_isPiece wsX8_isPiece rm_X8_isPiece (Pc0 1 D Y A σ [.ref (A 0 7 0), .int p0]) (Qi0 1 D Y A r σ') 0 0 (FA 1 A) := by
  rw [f_X8_isPiece] at hf
  refine Met0 (cc := cX8_isPiece) (maxL := 2) (ret := (some .boolean)) (own := RX8) (by decide +kernel) rfl hAD rfl (Nat.le_of_ble_eq_true rfl) ?_
  intro p e s m args below meth c S hr hlocks hW ls hl
  obtain ⟨hx, hb, hml, hown, hts⟩ := id S
  have iX8 : ∀ q ∈ wsX80, q ∈ wsX8_isPiece := fun q h => List.mem_cons_of_mem _ (List.mem_append_right _ (h))
  have hl : lv_has ls 2 [(0, .ref (A 0 7 0)), (1, .int p0)] := hl
  refine lv_iload_n hx hb dX8_isPiece_0 rfl (lv_at hl 1 rfl) ?_
  refine lv_iconst (v := (0 : Int32)) hx hb dX8_isPiece_1 (by decide) ?_
  refine lv_aload_n hx hb dX8_isPiece_2 rfl (lv_at hl 0 rfl) ?_
  refine gf_X8_many hx hb hts hown hW (kS_in (by decide)) iX8 (List.mem_of_getElem? (i := 1) rfl) dX8_isPiece_3 ?_
  refine lv_iconst (v := (1 : Int32)) hx hb dX8_isPiece_6 (by decide) ?_
  refine lv_isub hx hb dX8_isPiece_7 ?_
  obtain ⟨r1, σ1, hf1, hf⟩ := ss_bd_some hf
  refine rt_i S (c_X8_in l hAD  hf1) (va_cwS 3 hts gX8_isPiece_X8_in rfl rfl rfl hd_X8_in ⟨(Nat.le_of_ble_eq_true rfl), (Nat.le_of_ble_eq_true rfl)⟩) hW rfl rfl hl.1 (Nat.le_of_ble_eq_true rfl) ⟨Nat.zero_le _, Nat.zero_le _⟩ dX8_isPiece_8 (fun H locs hW => ?_)
  obtain ⟨g2, hf⟩ := ss_if hf
  exact re_z hx hb hr hlocks hW g2 (Option.some.inj hf) dX8_isPiece_11
def f_X8_isKind (p0 : Int32) (σ : ss_M) : Option (Int32 × ss_M) :=
  ss_bd (f_X8_in p0 (0 : Int32) (5 : Int32) σ) (fun r1 σ1 => if r1 &&& (1 : Int32) = r1 then (some (r1, σ1)) else none)
def rm_X8_isKind : Room := { frames := 2, cells := 0, slots := 0, locals := 100 }
theorem hd_X8_isKind : yX8_isKind.cls ≠ "java/lang/invoke/MethodHandle" ∧ yX8_isKind.cls ≠ "java/lang/invoke/VarHandle" ∧ (parseMethodDescriptor yX8_isKind.desc).map (fun d => d.parameters.length) = some 1 := by decide +kernel
set_option maxHeartbeats 4000000 in
set_option maxRecDepth 100000 in
theorem c_X8_isKind (l : Launch) {D : va_G} {Y : Nat → ClassId} {A : ss_A} (hAD : AD 1 A) {p0 : Int32}  {r : Int32} {σ σ' : ss_M} (hf : f_X8_isKind p0 σ = some (r, σ')) : Met l yX8_isKind wsX8_isKind rm_X8_isKind (Pc0 1 D Y A σ [.int p0]) (Qi0 1 D Y A r σ') 0 0 (FA 1 A) := by
  rw [f_X8_isKind] at hf
  refine Met0 (cc := cX8_isKind) (maxL := 1) (ret := (some .boolean)) (own := RX8) (by decide +kernel) rfl hAD rfl (Nat.le_of_ble_eq_true rfl) ?_
  intro p e s m args below meth c S hr hlocks hW ls hl
  obtain ⟨hx, hb, hml, hown, hts⟩ := id S
  have hl : lv_has ls 1 [(0, .int p0)] := hl
  refine lv_iload_n hx hb dX8_isKind_0 rfl (lv_at hl 0 rfl) ?_
  refine lv_iconst (v := (0 : Int32)) hx hb dX8_isKind_1 (by decide) ?_
  refine lv_iconst (v := (5 : Int32)) hx hb dX8_isKind_2 (by decide) ?_
  obtain ⟨r1, σ1, hf1, hf⟩ := ss_bd_some hf
  refine rt_i S (c_X8_in l hAD  hf1) (va_cwS 3 hts gX8_isKind_X8_in rfl rfl rfl hd_X8_in ⟨(Nat.le_of_ble_eq_true rfl), (Nat.le_of_ble_eq_true rfl)⟩) hW rfl rfl hl.1 (Nat.le_of_ble_eq_true rfl) ⟨Nat.zero_le _, Nat.zero_le _⟩ dX8_isKind_3 (fun H locs hW => ?_)
  obtain ⟨g2, hf⟩ := ss_if hf
  exact re_z hx hb hr hlocks hW g2 (Option.some.inj hf) dX8_isKind_6
def f_X8_isPage (p0 : Int32) (p1 : Int32) (σ : ss_M) : Option (Int32 × ss_M) :=
  ss_bd (f_X8_in p0 (1 : Int32) (30 : Int32) σ) (fun r1 σ1 => if r1 = (0 : Int32) then (some ((0 : Int32), σ1)) else (ss_bd (f_X8_in p1 (1 : Int32) (9 : Int32) σ1) (fun r3 σ3 => if r3 = (0 : Int32) then (some ((0 : Int32), σ3)) else (some ((1 : Int32), σ3)))))
def rm_X8_isPage : Room := { frames := 2, cells := 0, slots := 0, locals := 100 }
theorem hd_X8_isPage : yX8_isPage.cls ≠ "java/lang/invoke/MethodHandle" ∧ yX8_isPage.cls ≠ "java/lang/invoke/VarHandle" ∧ (parseMethodDescriptor yX8_isPage.desc).map (fun d => d.parameters.length) = some 2 := by decide +kernel
set_option maxHeartbeats 4000000 in
set_option maxRecDepth 100000 in
theorem c_X8_isPage (l : Launch) {D : va_G} {Y : Nat → ClassId} {A : ss_A} (hAD : AD 1 A) {p0 : Int32} {p1 : Int32}  {r : Int32} {σ σ' : ss_M} (hf : f_X8_isPage p0 p1 σ = some (r, σ')) : Met l yX8_isPage wsX8_isPage rm_X8_isPage (Pc0 1 D Y A σ [.int p0, .int p1]) (Qi0 1 D Y A r σ') 0 0 (FA 1 A) := by
  rw [f_X8_isPage] at hf
  refine Met0 (cc := cX8_isPage) (maxL := 2) (ret := (some .boolean)) (own := RX8) (by decide +kernel) rfl hAD rfl (Nat.le_of_ble_eq_true rfl) ?_
  intro p e s m args below meth c S hr hlocks hW ls hl
  obtain ⟨hx, hb, hml, hown, hts⟩ := id S
  have hl : lv_has ls 2 [(0, .int p0), (1, .int p1)] := hl
  refine lv_iload_n hx hb dX8_isPage_0 rfl (lv_at hl 0 rfl) ?_
  refine lv_iconst (v := (1 : Int32)) hx hb dX8_isPage_1 (by decide) ?_
  refine lv_bipush (v := (30 : Int32)) hx hb dX8_isPage_2 (by decide) ?_
  obtain ⟨r1, σ1, hf1, hf⟩ := ss_bd_some hf
  refine rt_i S (c_X8_in l hAD  hf1) (va_cwS 3 hts gX8_isPage_X8_in rfl rfl rfl hd_X8_in ⟨(Nat.le_of_ble_eq_true rfl), (Nat.le_of_ble_eq_true rfl)⟩) hW rfl rfl hl.1 (Nat.le_of_ble_eq_true rfl) ⟨Nat.zero_le _, Nat.zero_le _⟩ dX8_isPage_4 (fun H locs hW => ?_)
  refine lv_if_eq (tgt := 24) hx hb dX8_isPage_7 (by decide) (fun q2 => ?_) (fun q2 => ?_)
  · rw [if_pos q2] at hf
    refine lv_iconst (v := (0 : Int32)) hx hb dX8_isPage_24 (by decide) ?_
    exact re_z hx hb hr hlocks hW (by decide) (Option.some.inj hf) dX8_isPage_25
  · rw [if_neg q2] at hf
    refine lv_iload_n hx hb dX8_isPage_10 rfl (lv_at hl 1 rfl) ?_
    refine lv_iconst (v := (1 : Int32)) hx hb dX8_isPage_11 (by decide) ?_
    refine lv_bipush (v := (9 : Int32)) hx hb dX8_isPage_12 (by decide) ?_
    obtain ⟨r3, σ3, hf3, hf⟩ := ss_bd_some hf
    refine rt_i S (c_X8_in l hAD  hf3) (va_cwS 3 hts gX8_isPage_X8_in rfl rfl rfl hd_X8_in ⟨(Nat.le_of_ble_eq_true rfl), (Nat.le_of_ble_eq_true rfl)⟩) hW rfl rfl hl.1 (Nat.le_of_ble_eq_true rfl) ⟨Nat.zero_le _, Nat.zero_le _⟩ dX8_isPage_14 (fun H locs hW => ?_)
    refine lv_if_eq (tgt := 24) hx hb dX8_isPage_17 (by decide) (fun q4 => ?_) (fun q4 => ?_)
    · rw [if_pos q4] at hf
      refine lv_iconst (v := (0 : Int32)) hx hb dX8_isPage_24 (by decide) ?_
      exact re_z hx hb hr hlocks hW (by decide) (Option.some.inj hf) dX8_isPage_25
    · rw [if_neg q4] at hf
      refine lv_iconst (v := (1 : Int32)) hx hb dX8_isPage_20 (by decide) ?_
      refine lv_goto (tgt := 25) hx hb dX8_isPage_21 (by decide) ?_
      exact re_z hx hb hr hlocks hW (by decide) (Option.some.inj hf) dX8_isPage_25
def f_X8_page (p0 : Int32) (p1 : Int32) (σ : ss_M) : Option (Int32 × ss_M) :=
  ss_bd (f_X8_isPage p0 p1 σ) (fun r1 σ1 => if r1 = (0 : Int32) then (ss_bd (f_X8_bad σ1) (fun r4 σ4 => some (r4, σ4))) else (Option.bind (f_X8_begin p0 p1 σ1) (fun σ3 => some ((sG σ1 17 0), σ3))))
def rm_X8_page : Room := { frames := 4, cells := 0, slots := 0, locals := 200 }
theorem hd_X8_page : yX8_page.cls = RX8 ∧ yX8_page.cls ≠ "java/lang/invoke/MethodHandle" ∧ yX8_page.cls ≠ "java/lang/invoke/VarHandle" ∧ (parseMethodDescriptor yX8_page.desc).map (fun d => d.parameters.length) = some 2 := by decide +kernel
set_option maxHeartbeats 4000000 in
set_option maxRecDepth 100000 in
theorem c_X8_page (l : Launch) {D : va_G} {Y : Nat → ClassId} {A : ss_A} (hAD : AD 1 A) {p0 : Int32} {p1 : Int32}  {r : Int32} {σ σ' : ss_M} (hf : f_X8_page p0 p1 σ = some (r, σ')) : Met l yX8_page wsX8_page rm_X8_page (Pc0 1 D Y A σ [.ref (A 0 7 0), .int p0, .int p1]) (Qi0 1 D Y A r σ') 0 0 (FA 1 A) := by
  rw [f_X8_page] at hf
  refine Met0 (cc := cX8_page) (maxL := 4) (ret := (some .int)) (own := RX8) (by decide +kernel) rfl hAD rfl (Nat.le_of_ble_eq_true rfl) ?_
  intro p e s m args below meth c S hr hlocks hW ls hl
  obtain ⟨hx, hb, hml, hown, hts⟩ := id S
  have iX8 : ∀ q ∈ wsX80, q ∈ wsX8_page := fun q h => List.mem_cons_of_mem _ (List.mem_append_right _ (h))
  have hl : lv_has ls 4 [(0, .ref (A 0 7 0)), (1, .int p0), (2, .int p1)] := hl
  refine lv_iload_n hx hb dX8_page_0 rfl (lv_at hl 1 rfl) ?_
  refine lv_iload_n hx hb dX8_page_1 rfl (lv_at hl 2 rfl) ?_
  obtain ⟨r1, σ1, hf1, hf⟩ := ss_bd_some hf
  refine rt_i S (c_X8_isPage l hAD  hf1) (va_cwS 2 hts gX8_page_X8_isPage rfl rfl rfl hd_X8_isPage ⟨(Nat.le_of_ble_eq_true rfl), (Nat.le_of_ble_eq_true rfl)⟩) hW rfl rfl hl.1 (Nat.le_of_ble_eq_true rfl) ⟨Nat.zero_le _, Nat.zero_le _⟩ dX8_page_2 (fun H locs hW => ?_)
  refine lv_if_ne (tgt := 13) hx hb dX8_page_5 (by decide) (fun q2 => ?_) (fun q2 => ?_)
  · rw [if_neg q2] at hf
    refine lv_aload_n hx hb dX8_page_13 rfl (lv_at hl 0 rfl) ?_
    refine gf_X8_many hx hb hts hown hW (kS_in (by decide)) iX8 (List.mem_of_getElem? (i := 1) rfl) dX8_page_14 ?_
    refine lv_istore_n (lv' := [(3, .int (sG σ1 17 0)), (0, .ref (A 0 7 0)), (1, .int p0), (2, .int p1)]) hx hb dX8_page_17 rfl hl (by decide) rfl (fun ls hl => ?_)
    refine lv_aload_n hx hb dX8_page_18 rfl (lv_at hl 1 rfl) ?_
    refine lv_iload_n hx hb dX8_page_19 rfl (lv_at hl 2 rfl) ?_
    refine lv_iload_n hx hb dX8_page_20 rfl (lv_at hl 3 rfl) ?_
    obtain ⟨σ3, hf3, hf⟩ := ss_bind hf
    refine rv_v S (c_X8_begin l hAD  hf3) (cwV 2 hts gX8_page_X8_begin rfl rfl rfl hd_X8_begin ⟨(Nat.le_of_ble_eq_true rfl), (Nat.le_of_ble_eq_true rfl)⟩) hW (kS_in (by decide)) rfl rfl rfl hl.1 (Nat.le_of_ble_eq_true rfl) ⟨Nat.zero_le _, Nat.zero_le _⟩ dX8_page_21 (fun H locs hW => ?_)
    refine lv_iload_n hx hb dX8_page_24 rfl (lv_at hl 0 rfl) ?_
    exact re_i hx hb hr hlocks hW (Option.some.inj hf) dX8_page_25
  · rw [if_pos q2] at hf
    refine lv_aload_n hx hb dX8_page_8 rfl (lv_at hl 0 rfl) ?_
    obtain ⟨r4, σ4, hf4, hf⟩ := ss_bd_some hf
    refine rv_i S (c_X8_bad l hAD  hf4) (cwV 0 hts gX8_page_X8_bad rfl rfl rfl hd_X8_bad ⟨(Nat.le_of_ble_eq_true rfl), (Nat.le_of_ble_eq_true rfl)⟩) hW (kS_in (by decide)) rfl rfl rfl hl.1 (Nat.le_of_ble_eq_true rfl) ⟨Nat.zero_le _, Nat.zero_le _⟩ dX8_page_9 (fun H locs hW => ?_)
    exact re_i hx hb hr hlocks hW (Option.some.inj hf) dX8_page_12
def f_X8_add (p0 : Int32) (σ : ss_M) : Option (Int32 × ss_M) :=
  if gd (sG σ 17 0) 12 = true then (if gd (sG (sAu σ 17 0 (upd (sA σ 17 0) ((sG σ 17 0)).toNatClampNeg p0)) 17 0) 12 = true then (ss_let (sAu (sAu σ 17 0 (upd (sA σ 17 0) ((sG σ 17 0)).toNatClampNeg p0)) 18 0 (upd (sA (sAu σ 17 0 (upd (sA σ 17 0) ((sG σ 17 0)).toNatClampNeg p0)) 18 0) ((sG (sAu σ 17 0 (upd (sA σ 17 0) ((sG σ 17 0)).toNatClampNeg p0)) 17 0)).toNatClampNeg (-1 : Int32))) (fun σm3 => if gd (sG σm3 17 0) 12 = true then (ss_let (sGu (sAu σm3 19 0 (upd (sA σm3 19 0) ((sG σm3 17 0)).toNatClampNeg (0 : Int32))) 17 0 ((sG (sAu σm3 19 0 (upd (sA σm3 19 0) ((sG σm3 17 0)).toNatClampNeg (0 : Int32))) 17 0) + (1 : Int32))) (fun σm5 => some (((sG (sGu σm5 27 0 (0 : Int32)) 17 0) - (1 : Int32)), (sGu σm5 27 0 (0 : Int32))))) else none)) else none) else none
def rm_X8_add : Room := { frames := 0, cells := 0, slots := 0, locals := 0 }
theorem hd_X8_add : yX8_add.cls = RX8 ∧ yX8_add.cls ≠ "java/lang/invoke/MethodHandle" ∧ yX8_add.cls ≠ "java/lang/invoke/VarHandle" ∧ (parseMethodDescriptor yX8_add.desc).map (fun d => d.parameters.length) = some 1 := by decide +kernel
set_option maxHeartbeats 4000000 in
set_option maxRecDepth 100000 in
theorem c_X8_add (l : Launch) {D : va_G} {Y : Nat → ClassId} {A : ss_A} (hAD : AD 1 A) {p0 : Int32}  {r : Int32} {σ σ' : ss_M} (hf : f_X8_add p0 σ = some (r, σ')) : Met l yX8_add wsX8_add rm_X8_add (Pc0 1 D Y A σ [.ref (A 0 7 0), .int p0]) (Qi0 1 D Y A r σ') 0 0 (FA 1 A) := by
  rw [f_X8_add] at hf
  refine Met0 (cc := cX8_add) (maxL := 2) (ret := (some .int)) (own := RX8) (by decide +kernel) rfl hAD rfl (Nat.le_of_ble_eq_true rfl) ?_
  intro p e s m args below meth c S hr hlocks hW ls hl
  obtain ⟨hx, hb, hml, hown, hts⟩ := id S
  have iX8 : ∀ q ∈ wsX80, q ∈ wsX8_add := fun q h => List.mem_cons_of_mem _ (List.mem_append_right _ (h))
  have hl : lv_has ls 2 [(0, .ref (A 0 7 0)), (1, .int p0)] := hl
  refine lv_aload_n hx hb dX8_add_0 rfl (lv_at hl 0 rfl) ?_
  refine gf_X8_lengths hx hb hts hown hW (kS_in (by decide)) iX8 (List.mem_of_getElem? (i := 1) rfl) dX8_add_1 ?_
  refine lv_aload_n hx hb dX8_add_4 rfl (lv_at hl 0 rfl) ?_
  refine gf_X8_many hx hb hts hown hW (kS_in (by decide)) iX8 (List.mem_of_getElem? (i := 2) rfl) dX8_add_5 ?_
  refine lv_iload_n hx hb dX8_add_8 rfl (lv_at hl 1 rfl) ?_
  obtain ⟨g1, hf⟩ := ss_if hf
  refine rs_i hx hb hW (kS_in (by decide)) g1 dX8_add_9 (fun H locs hW => ?_)
  refine lv_aload_n hx hb dX8_add_10 rfl (lv_at hl 0 rfl) ?_
  refine gf_X8_kinds hx hb hts hown hW (kS_in (by decide)) iX8 (List.mem_of_getElem? (i := 3) rfl) dX8_add_11 ?_
  refine lv_aload_n hx hb dX8_add_14 rfl (lv_at hl 0 rfl) ?_
  refine gf_X8_many hx hb hts hown hW (kS_in (by decide)) iX8 (List.mem_of_getElem? (i := 2) rfl) dX8_add_15 ?_
  refine lv_iconst (v := (-1 : Int32)) hx hb dX8_add_18 (by decide) ?_
  obtain ⟨g2, hf⟩ := ss_if hf
  refine rs_i hx hb hW (kS_in (by decide)) g2 dX8_add_19 (fun H locs hW => ?_)
  obtain ⟨σm3, eσm3, hf⟩ := ss_let_some hf
  rw [← eσm3] at hW
  refine lv_aload_n hx hb dX8_add_20 rfl (lv_at hl 0 rfl) ?_
  refine gf_X8_reads hx hb hts hown hW (kS_in (by decide)) iX8 (List.mem_of_getElem? (i := 4) rfl) dX8_add_21 ?_
  refine lv_aload_n hx hb dX8_add_24 rfl (lv_at hl 0 rfl) ?_
  refine gf_X8_many hx hb hts hown hW (kS_in (by decide)) iX8 (List.mem_of_getElem? (i := 2) rfl) dX8_add_25 ?_
  refine lv_iconst (v := (0 : Int32)) hx hb dX8_add_28 (by decide) ?_
  obtain ⟨g4, hf⟩ := ss_if hf
  refine rs_i hx hb hW (kS_in (by decide)) g4 dX8_add_29 (fun H locs hW => ?_)
  refine lv_aload_n hx hb dX8_add_30 rfl (lv_at hl 0 rfl) ?_
  refine lv_dup hx hb dX8_add_31 rfl ?_
  refine gf_X8_many hx hb hts hown hW (kS_in (by decide)) iX8 (List.mem_of_getElem? (i := 2) rfl) dX8_add_32 ?_
  refine lv_iconst (v := (1 : Int32)) hx hb dX8_add_35 (by decide) ?_
  refine lv_iadd hx hb dX8_add_36 ?_
  refine pf_X8_many hx hb hts hown hW (kS_in (by decide)) iX8 (List.mem_of_getElem? (i := 2) rfl) dX8_add_37 (fun H locs hW => ?_)
  obtain ⟨σm5, eσm5, hf⟩ := ss_let_some hf
  rw [← eσm5] at hW
  refine lv_aload_n hx hb dX8_add_40 rfl (lv_at hl 0 rfl) ?_
  refine lv_iconst (v := (0 : Int32)) hx hb dX8_add_41 (by decide) ?_
  refine pf_X8_undoMany hx hb hts hown hW (kS_in (by decide)) iX8 (List.mem_of_getElem? (i := 5) rfl) dX8_add_42 (fun H locs hW => ?_)
  refine lv_aload_n hx hb dX8_add_45 rfl (lv_at hl 0 rfl) ?_
  refine gf_X8_many hx hb hts hown hW (kS_in (by decide)) iX8 (List.mem_of_getElem? (i := 2) rfl) dX8_add_46 ?_
  refine lv_iconst (v := (1 : Int32)) hx hb dX8_add_49 (by decide) ?_
  refine lv_isub hx hb dX8_add_50 ?_
  exact re_i hx hb hr hlocks hW (Option.some.inj hf) dX8_add_51
def f_X8_word (p0 : Int32) (σ : ss_M) : Option (Int32 × ss_M) :=
  ss_bd (f_X8_in p0 (1 : Int32) (9 : Int32) σ) (fun r1 σ1 => if r1 = (0 : Int32) then (ss_bd (f_X8_bad σ1) (fun r6 σ6 => some (r6, σ6))) else (if (sG σ1 17 0) = (12 : Int32) then (ss_bd (f_X8_full σ1) (fun r5 σ5 => some (r5, σ5))) else (ss_bd (f_X8_add p0 σ1) (fun r4 σ4 => some (r4, σ4)))))
def rm_X8_word : Room := { frames := 2, cells := 0, slots := 0, locals := 100 }
theorem hd_X8_word : yX8_word.cls = RX8 ∧ yX8_word.cls ≠ "java/lang/invoke/MethodHandle" ∧ yX8_word.cls ≠ "java/lang/invoke/VarHandle" ∧ (parseMethodDescriptor yX8_word.desc).map (fun d => d.parameters.length) = some 1 := by decide +kernel
set_option maxHeartbeats 4000000 in
set_option maxRecDepth 100000 in
theorem c_X8_word (l : Launch) {D : va_G} {Y : Nat → ClassId} {A : ss_A} (hAD : AD 1 A) {p0 : Int32}  {r : Int32} {σ σ' : ss_M} (hf : f_X8_word p0 σ = some (r, σ')) : Met l yX8_word wsX8_word rm_X8_word (Pc0 1 D Y A σ [.ref (A 0 7 0), .int p0]) (Qi0 1 D Y A r σ') 0 0 (FA 1 A) := by
  rw [f_X8_word] at hf
  refine Met0 (cc := cX8_word) (maxL := 2) (ret := (some .int)) (own := RX8) (by decide +kernel) rfl hAD rfl (Nat.le_of_ble_eq_true rfl) ?_
  intro p e s m args below meth c S hr hlocks hW ls hl
  obtain ⟨hx, hb, hml, hown, hts⟩ := id S
  have iX8 : ∀ q ∈ wsX80, q ∈ wsX8_word := fun q h => List.mem_cons_of_mem _ (List.mem_append_right _ (h))
  have hl : lv_has ls 2 [(0, .ref (A 0 7 0)), (1, .int p0)] := hl
  refine lv_iload_n hx hb dX8_word_0 rfl (lv_at hl 1 rfl) ?_
  refine lv_iconst (v := (1 : Int32)) hx hb dX8_word_1 (by decide) ?_
  refine lv_bipush (v := (9 : Int32)) hx hb dX8_word_2 (by decide) ?_
  obtain ⟨r1, σ1, hf1, hf⟩ := ss_bd_some hf
  refine rt_i S (c_X8_in l hAD  hf1) (va_cwS 3 hts gX8_word_X8_in rfl rfl rfl hd_X8_in ⟨(Nat.le_of_ble_eq_true rfl), (Nat.le_of_ble_eq_true rfl)⟩) hW rfl rfl hl.1 (Nat.le_of_ble_eq_true rfl) ⟨Nat.zero_le _, Nat.zero_le _⟩ dX8_word_4 (fun H locs hW => ?_)
  refine lv_if_ne (tgt := 15) hx hb dX8_word_7 (by decide) (fun q2 => ?_) (fun q2 => ?_)
  · rw [if_neg q2] at hf
    refine lv_aload_n hx hb dX8_word_15 rfl (lv_at hl 0 rfl) ?_
    refine gf_X8_many hx hb hts hown hW (kS_in (by decide)) iX8 (List.mem_of_getElem? (i := 1) rfl) dX8_word_16 ?_
    refine lv_bipush (v := (12 : Int32)) hx hb dX8_word_19 (by decide) ?_
    refine lv_icmp_ne (tgt := 31) hx hb dX8_word_21 (by decide) (fun q3 => ?_) (fun q3 => ?_)
    · rw [if_neg q3] at hf
      refine lv_aload_n hx hb dX8_word_31 rfl (lv_at hl 0 rfl) ?_
      refine lv_iload_n hx hb dX8_word_32 rfl (lv_at hl 1 rfl) ?_
      obtain ⟨r4, σ4, hf4, hf⟩ := ss_bd_some hf
      refine rv_i S (c_X8_add l hAD  hf4) (cwV 1 hts gX8_word_X8_add rfl rfl rfl hd_X8_add ⟨(Nat.le_of_ble_eq_true rfl), (Nat.le_of_ble_eq_true rfl)⟩) hW (kS_in (by decide)) rfl rfl rfl hl.1 (Nat.le_of_ble_eq_true rfl) ⟨Nat.zero_le _, Nat.zero_le _⟩ dX8_word_33 (fun H locs hW => ?_)
      exact re_i hx hb hr hlocks hW (Option.some.inj hf) dX8_word_36
    · rw [if_pos q3] at hf
      refine lv_aload_n hx hb dX8_word_24 rfl (lv_at hl 0 rfl) ?_
      obtain ⟨r5, σ5, hf5, hf⟩ := ss_bd_some hf
      refine rv_i S (c_X8_full l hAD  hf5) (cwV 0 hts gX8_word_X8_full rfl rfl rfl hd_X8_full ⟨(Nat.le_of_ble_eq_true rfl), (Nat.le_of_ble_eq_true rfl)⟩) hW (kS_in (by decide)) rfl rfl rfl hl.1 (Nat.le_of_ble_eq_true rfl) ⟨Nat.zero_le _, Nat.zero_le _⟩ dX8_word_25 (fun H locs hW => ?_)
      refine lv_goto (tgt := 36) hx hb dX8_word_28 (by decide) ?_
      exact re_i hx hb hr hlocks hW (Option.some.inj hf) dX8_word_36
  · rw [if_pos q2] at hf
    refine lv_aload_n hx hb dX8_word_10 rfl (lv_at hl 0 rfl) ?_
    obtain ⟨r6, σ6, hf6, hf⟩ := ss_bd_some hf
    refine rv_i S (c_X8_bad l hAD  hf6) (cwV 0 hts gX8_word_X8_bad rfl rfl rfl hd_X8_bad ⟨(Nat.le_of_ble_eq_true rfl), (Nat.le_of_ble_eq_true rfl)⟩) hW (kS_in (by decide)) rfl rfl rfl hl.1 (Nat.le_of_ble_eq_true rfl) ⟨Nat.zero_le _, Nat.zero_le _⟩ dX8_word_11 (fun H locs hW => ?_)
    exact re_i hx hb hr hlocks hW (Option.some.inj hf) dX8_word_14
def f_X8_breath (p0 : Int32) (σ : ss_M) : Option (Int32 × ss_M) :=
  ss_bd (f_X8_in p0 (1 : Int32) (30 : Int32) σ) (fun r1 σ1 => if r1 = (0 : Int32) then (ss_bd (f_X8_bad σ1) (fun r3 σ3 => some (r3, σ3))) else (some ((sG σ1 18 0), (sGu σ1 18 0 p0))))
def rm_X8_breath : Room := { frames := 2, cells := 0, slots := 0, locals := 100 }
theorem hd_X8_breath : yX8_breath.cls = RX8 ∧ yX8_breath.cls ≠ "java/lang/invoke/MethodHandle" ∧ yX8_breath.cls ≠ "java/lang/invoke/VarHandle" ∧ (parseMethodDescriptor yX8_breath.desc).map (fun d => d.parameters.length) = some 1 := by decide +kernel
set_option maxHeartbeats 4000000 in
set_option maxRecDepth 100000 in
theorem c_X8_breath (l : Launch) {D : va_G} {Y : Nat → ClassId} {A : ss_A} (hAD : AD 1 A) {p0 : Int32}  {r : Int32} {σ σ' : ss_M} (hf : f_X8_breath p0 σ = some (r, σ')) : Met l yX8_breath wsX8_breath rm_X8_breath (Pc0 1 D Y A σ [.ref (A 0 7 0), .int p0]) (Qi0 1 D Y A r σ') 0 0 (FA 1 A) := by
  rw [f_X8_breath] at hf
  refine Met0 (cc := cX8_breath) (maxL := 3) (ret := (some .int)) (own := RX8) (by decide +kernel) rfl hAD rfl (Nat.le_of_ble_eq_true rfl) ?_
  intro p e s m args below meth c S hr hlocks hW ls hl
  obtain ⟨hx, hb, hml, hown, hts⟩ := id S
  have iX8 : ∀ q ∈ wsX80, q ∈ wsX8_breath := fun q h => List.mem_cons_of_mem _ (List.mem_append_right _ (h))
  have hl : lv_has ls 3 [(0, .ref (A 0 7 0)), (1, .int p0)] := hl
  refine lv_iload_n hx hb dX8_breath_0 rfl (lv_at hl 1 rfl) ?_
  refine lv_iconst (v := (1 : Int32)) hx hb dX8_breath_1 (by decide) ?_
  refine lv_bipush (v := (30 : Int32)) hx hb dX8_breath_2 (by decide) ?_
  obtain ⟨r1, σ1, hf1, hf⟩ := ss_bd_some hf
  refine rt_i S (c_X8_in l hAD  hf1) (va_cwS 3 hts gX8_breath_X8_in rfl rfl rfl hd_X8_in ⟨(Nat.le_of_ble_eq_true rfl), (Nat.le_of_ble_eq_true rfl)⟩) hW rfl rfl hl.1 (Nat.le_of_ble_eq_true rfl) ⟨Nat.zero_le _, Nat.zero_le _⟩ dX8_breath_4 (fun H locs hW => ?_)
  refine lv_if_ne (tgt := 15) hx hb dX8_breath_7 (by decide) (fun q2 => ?_) (fun q2 => ?_)
  · rw [if_neg q2] at hf
    refine lv_aload_n hx hb dX8_breath_15 rfl (lv_at hl 0 rfl) ?_
    refine gf_X8_breath hx hb hts hown hW (kS_in (by decide)) iX8 (List.mem_of_getElem? (i := 1) rfl) dX8_breath_16 ?_
    refine lv_istore_n (lv' := [(2, .int (sG σ1 18 0)), (0, .ref (A 0 7 0)), (1, .int p0)]) hx hb dX8_breath_19 rfl hl (by decide) rfl (fun ls hl => ?_)
    refine lv_aload_n hx hb dX8_breath_20 rfl (lv_at hl 1 rfl) ?_
    refine lv_iload_n hx hb dX8_breath_21 rfl (lv_at hl 2 rfl) ?_
    refine pf_X8_breath hx hb hts hown hW (kS_in (by decide)) iX8 (List.mem_of_getElem? (i := 1) rfl) dX8_breath_22 (fun H locs hW => ?_)
    refine lv_iload_n hx hb dX8_breath_25 rfl (lv_at hl 0 rfl) ?_
    exact re_i hx hb hr hlocks hW (Option.some.inj hf) dX8_breath_26
  · rw [if_pos q2] at hf
    refine lv_aload_n hx hb dX8_breath_10 rfl (lv_at hl 0 rfl) ?_
    obtain ⟨r3, σ3, hf3, hf⟩ := ss_bd_some hf
    refine rv_i S (c_X8_bad l hAD  hf3) (cwV 0 hts gX8_breath_X8_bad rfl rfl rfl hd_X8_bad ⟨(Nat.le_of_ble_eq_true rfl), (Nat.le_of_ble_eq_true rfl)⟩) hW (kS_in (by decide)) rfl rfl rfl hl.1 (Nat.le_of_ble_eq_true rfl) ⟨Nat.zero_le _, Nat.zero_le _⟩ dX8_breath_11 (fun H locs hW => ?_)
    exact re_i hx hb hr hlocks hW (Option.some.inj hf) dX8_breath_14
def f_X8_price (p0 : Int32) (σ : ss_M) : Option (Int32 × ss_M) :=
  ss_bd (f_X8_in p0 (1 : Int32) (9 : Int32) σ) (fun r1 σ1 => if r1 = (0 : Int32) then (ss_bd (f_X8_bad σ1) (fun r3 σ3 => some (r3, σ3))) else (some ((sG σ1 19 0), (sGu σ1 19 0 p0))))
def rm_X8_price : Room := { frames := 2, cells := 0, slots := 0, locals := 100 }
theorem hd_X8_price : yX8_price.cls = RX8 ∧ yX8_price.cls ≠ "java/lang/invoke/MethodHandle" ∧ yX8_price.cls ≠ "java/lang/invoke/VarHandle" ∧ (parseMethodDescriptor yX8_price.desc).map (fun d => d.parameters.length) = some 1 := by decide +kernel
set_option maxHeartbeats 4000000 in
set_option maxRecDepth 100000 in
theorem c_X8_price (l : Launch) {D : va_G} {Y : Nat → ClassId} {A : ss_A} (hAD : AD 1 A) {p0 : Int32}  {r : Int32} {σ σ' : ss_M} (hf : f_X8_price p0 σ = some (r, σ')) : Met l yX8_price wsX8_price rm_X8_price (Pc0 1 D Y A σ [.ref (A 0 7 0), .int p0]) (Qi0 1 D Y A r σ') 0 0 (FA 1 A) := by
  rw [f_X8_price] at hf
  refine Met0 (cc := cX8_price) (maxL := 3) (ret := (some .int)) (own := RX8) (by decide +kernel) rfl hAD rfl (Nat.le_of_ble_eq_true rfl) ?_
  intro p e s m args below meth c S hr hlocks hW ls hl
  obtain ⟨hx, hb, hml, hown, hts⟩ := id S
  have iX8 : ∀ q ∈ wsX80, q ∈ wsX8_price := fun q h => List.mem_cons_of_mem _ (List.mem_append_right _ (h))
  have hl : lv_has ls 3 [(0, .ref (A 0 7 0)), (1, .int p0)] := hl
  refine lv_iload_n hx hb dX8_price_0 rfl (lv_at hl 1 rfl) ?_
  refine lv_iconst (v := (1 : Int32)) hx hb dX8_price_1 (by decide) ?_
  refine lv_bipush (v := (9 : Int32)) hx hb dX8_price_2 (by decide) ?_
  obtain ⟨r1, σ1, hf1, hf⟩ := ss_bd_some hf
  refine rt_i S (c_X8_in l hAD  hf1) (va_cwS 3 hts gX8_price_X8_in rfl rfl rfl hd_X8_in ⟨(Nat.le_of_ble_eq_true rfl), (Nat.le_of_ble_eq_true rfl)⟩) hW rfl rfl hl.1 (Nat.le_of_ble_eq_true rfl) ⟨Nat.zero_le _, Nat.zero_le _⟩ dX8_price_4 (fun H locs hW => ?_)
  refine lv_if_ne (tgt := 15) hx hb dX8_price_7 (by decide) (fun q2 => ?_) (fun q2 => ?_)
  · rw [if_neg q2] at hf
    refine lv_aload_n hx hb dX8_price_15 rfl (lv_at hl 0 rfl) ?_
    refine gf_X8_price hx hb hts hown hW (kS_in (by decide)) iX8 (List.mem_of_getElem? (i := 1) rfl) dX8_price_16 ?_
    refine lv_istore_n (lv' := [(2, .int (sG σ1 19 0)), (0, .ref (A 0 7 0)), (1, .int p0)]) hx hb dX8_price_19 rfl hl (by decide) rfl (fun ls hl => ?_)
    refine lv_aload_n hx hb dX8_price_20 rfl (lv_at hl 1 rfl) ?_
    refine lv_iload_n hx hb dX8_price_21 rfl (lv_at hl 2 rfl) ?_
    refine pf_X8_price hx hb hts hown hW (kS_in (by decide)) iX8 (List.mem_of_getElem? (i := 1) rfl) dX8_price_22 (fun H locs hW => ?_)
    refine lv_iload_n hx hb dX8_price_25 rfl (lv_at hl 0 rfl) ?_
    exact re_i hx hb hr hlocks hW (Option.some.inj hf) dX8_price_26
  · rw [if_pos q2] at hf
    refine lv_aload_n hx hb dX8_price_10 rfl (lv_at hl 0 rfl) ?_
    obtain ⟨r3, σ3, hf3, hf⟩ := ss_bd_some hf
    refine rv_i S (c_X8_bad l hAD  hf3) (cwV 0 hts gX8_price_X8_bad rfl rfl rfl hd_X8_bad ⟨(Nat.le_of_ble_eq_true rfl), (Nat.le_of_ble_eq_true rfl)⟩) hW (kS_in (by decide)) rfl rfl rfl hl.1 (Nat.le_of_ble_eq_true rfl) ⟨Nat.zero_le _, Nat.zero_le _⟩ dX8_price_11 (fun H locs hW => ?_)
    exact re_i hx hb hr hlocks hW (Option.some.inj hf) dX8_price_14
def f_X8_purse (p0 : Int32) (σ : ss_M) : Option (Int32 × ss_M) :=
  ss_bd (f_X8_in p0 (0 : Int32) (999 : Int32) σ) (fun r1 σ1 => if r1 = (0 : Int32) then (ss_bd (f_X8_bad σ1) (fun r3 σ3 => some (r3, σ3))) else (some ((sG σ1 20 0), (sGu σ1 20 0 p0))))
def rm_X8_purse : Room := { frames := 2, cells := 0, slots := 0, locals := 100 }
theorem hd_X8_purse : yX8_purse.cls = RX8 ∧ yX8_purse.cls ≠ "java/lang/invoke/MethodHandle" ∧ yX8_purse.cls ≠ "java/lang/invoke/VarHandle" ∧ (parseMethodDescriptor yX8_purse.desc).map (fun d => d.parameters.length) = some 1 := by decide +kernel
set_option maxHeartbeats 4000000 in
set_option maxRecDepth 100000 in
theorem c_X8_purse (l : Launch) {D : va_G} {Y : Nat → ClassId} {A : ss_A} (hAD : AD 1 A) {p0 : Int32}  {r : Int32} {σ σ' : ss_M} (hf : f_X8_purse p0 σ = some (r, σ')) : Met l yX8_purse wsX8_purse rm_X8_purse (Pc0 1 D Y A σ [.ref (A 0 7 0), .int p0]) (Qi0 1 D Y A r σ') 0 0 (FA 1 A) := by
  rw [f_X8_purse] at hf
  refine Met0 (cc := cX8_purse) (maxL := 3) (ret := (some .int)) (own := RX8) (by decide +kernel) rfl hAD rfl (Nat.le_of_ble_eq_true rfl) ?_
  intro p e s m args below meth c S hr hlocks hW ls hl
  obtain ⟨hx, hb, hml, hown, hts⟩ := id S
  have iX8 : ∀ q ∈ wsX80, q ∈ wsX8_purse := fun q h => List.mem_cons_of_mem _ (List.mem_append_right _ (h))
  have hl : lv_has ls 3 [(0, .ref (A 0 7 0)), (1, .int p0)] := hl
  refine lv_iload_n hx hb dX8_purse_0 rfl (lv_at hl 1 rfl) ?_
  refine lv_iconst (v := (0 : Int32)) hx hb dX8_purse_1 (by decide) ?_
  refine lv_sipush (v := (999 : Int32)) hx hb dX8_purse_2 (by decide) ?_
  obtain ⟨r1, σ1, hf1, hf⟩ := ss_bd_some hf
  refine rt_i S (c_X8_in l hAD  hf1) (va_cwS 3 hts gX8_purse_X8_in rfl rfl rfl hd_X8_in ⟨(Nat.le_of_ble_eq_true rfl), (Nat.le_of_ble_eq_true rfl)⟩) hW rfl rfl hl.1 (Nat.le_of_ble_eq_true rfl) ⟨Nat.zero_le _, Nat.zero_le _⟩ dX8_purse_5 (fun H locs hW => ?_)
  refine lv_if_ne (tgt := 16) hx hb dX8_purse_8 (by decide) (fun q2 => ?_) (fun q2 => ?_)
  · rw [if_neg q2] at hf
    refine lv_aload_n hx hb dX8_purse_16 rfl (lv_at hl 0 rfl) ?_
    refine gf_X8_purse hx hb hts hown hW (kS_in (by decide)) iX8 (List.mem_of_getElem? (i := 1) rfl) dX8_purse_17 ?_
    refine lv_istore_n (lv' := [(2, .int (sG σ1 20 0)), (0, .ref (A 0 7 0)), (1, .int p0)]) hx hb dX8_purse_20 rfl hl (by decide) rfl (fun ls hl => ?_)
    refine lv_aload_n hx hb dX8_purse_21 rfl (lv_at hl 1 rfl) ?_
    refine lv_iload_n hx hb dX8_purse_22 rfl (lv_at hl 2 rfl) ?_
    refine pf_X8_purse hx hb hts hown hW (kS_in (by decide)) iX8 (List.mem_of_getElem? (i := 1) rfl) dX8_purse_23 (fun H locs hW => ?_)
    refine lv_iload_n hx hb dX8_purse_26 rfl (lv_at hl 0 rfl) ?_
    exact re_i hx hb hr hlocks hW (Option.some.inj hf) dX8_purse_27
  · rw [if_pos q2] at hf
    refine lv_aload_n hx hb dX8_purse_11 rfl (lv_at hl 0 rfl) ?_
    obtain ⟨r3, σ3, hf3, hf⟩ := ss_bd_some hf
    refine rv_i S (c_X8_bad l hAD  hf3) (cwV 0 hts gX8_purse_X8_bad rfl rfl rfl hd_X8_bad ⟨(Nat.le_of_ble_eq_true rfl), (Nat.le_of_ble_eq_true rfl)⟩) hW (kS_in (by decide)) rfl rfl rfl hl.1 (Nat.le_of_ble_eq_true rfl) ⟨Nat.zero_le _, Nat.zero_le _⟩ dX8_purse_12 (fun H locs hW => ?_)
    exact re_i hx hb hr hlocks hW (Option.some.inj hf) dX8_purse_15
def f_X8_mark (p0 : Int32) (p1 : Int32) (σ : ss_M) : Option ss_M :=
  if gd p0 12 = true then (if gd p0 12 = true then (ss_let (sAu (sAu σ 18 0 (upd (sA σ 18 0) (p0).toNatClampNeg p1)) 19 0 (upd (sA (sAu σ 18 0 (upd (sA σ 18 0) (p0).toNatClampNeg p1)) 19 0) (p0).toNatClampNeg (0 : Int32))) (fun σm3 => some σm3)) else none) else none
def rm_X8_mark : Room := { frames := 0, cells := 0, slots := 0, locals := 0 }
theorem hd_X8_mark : yX8_mark.cls = RX8 ∧ yX8_mark.cls ≠ "java/lang/invoke/MethodHandle" ∧ yX8_mark.cls ≠ "java/lang/invoke/VarHandle" ∧ (parseMethodDescriptor yX8_mark.desc).map (fun d => d.parameters.length) = some 2 := by decide +kernel
set_option maxHeartbeats 4000000 in
set_option maxRecDepth 100000 in
theorem c_X8_mark (l : Launch) {D : va_G} {Y : Nat → ClassId} {A : ss_A} (hAD : AD 1 A) {p0 : Int32} {p1 : Int32}  {σ σ' : ss_M} (hf : f_X8_mark p0 p1 σ = some σ') : Met l yX8_mark wsX8_mark rm_X8_mark (Pc0 1 D Y A σ [.ref (A 0 7 0), .int p0, .int p1]) (Qv0 1 D Y A σ') 0 0 (FA 1 A) := by
  rw [f_X8_mark] at hf
  refine Met0 (cc := cX8_mark) (maxL := 3) (ret := none) (own := RX8) (by decide +kernel) rfl hAD rfl (Nat.le_of_ble_eq_true rfl) ?_
  intro p e s m args below meth c S hr hlocks hW ls hl
  obtain ⟨hx, hb, hml, hown, hts⟩ := id S
  have iX8 : ∀ q ∈ wsX80, q ∈ wsX8_mark := fun q h => List.mem_cons_of_mem _ (List.mem_append_right _ (h))
  have hl : lv_has ls 3 [(0, .ref (A 0 7 0)), (1, .int p0), (2, .int p1)] := hl
  refine lv_aload_n hx hb dX8_mark_0 rfl (lv_at hl 0 rfl) ?_
  refine gf_X8_kinds hx hb hts hown hW (kS_in (by decide)) iX8 (List.mem_of_getElem? (i := 1) rfl) dX8_mark_1 ?_
  refine lv_iload_n hx hb dX8_mark_4 rfl (lv_at hl 1 rfl) ?_
  refine lv_iload_n hx hb dX8_mark_5 rfl (lv_at hl 2 rfl) ?_
  obtain ⟨g1, hf⟩ := ss_if hf
  refine rs_i hx hb hW (kS_in (by decide)) g1 dX8_mark_6 (fun H locs hW => ?_)
  refine lv_aload_n hx hb dX8_mark_7 rfl (lv_at hl 0 rfl) ?_
  refine gf_X8_reads hx hb hts hown hW (kS_in (by decide)) iX8 (List.mem_of_getElem? (i := 2) rfl) dX8_mark_8 ?_
  refine lv_iload_n hx hb dX8_mark_11 rfl (lv_at hl 1 rfl) ?_
  refine lv_iconst (v := (0 : Int32)) hx hb dX8_mark_12 (by decide) ?_
  obtain ⟨g2, hf⟩ := ss_if hf
  refine rs_i hx hb hW (kS_in (by decide)) g2 dX8_mark_13 (fun H locs hW => ?_)
  obtain ⟨σm3, eσm3, hf⟩ := ss_let_some hf
  rw [← eσm3] at hW
  exact re_v hx hb hr hlocks hW (Option.some.inj hf) dX8_mark_14
def f_X8_put_j15 (σ15_ : ss_M) : Option (Int32 × ss_M) :=
  ss_bd (f_X8_ten σ15_) (fun r2 σ2 => some (r2, σ2))
def f_X8_put (p0 : Int32) (p1 : Int32) (σ : ss_M) : Option (Int32 × ss_M) :=
  ss_bd (f_X8_isPiece p0 σ) (fun r1 σ1 => if r1 = (0 : Int32) then (f_X8_put_j15 σ1) else (ss_bd (f_X8_isKind p1 σ1) (fun r4 σ4 => if r4 = (0 : Int32) then (f_X8_put_j15 σ4) else (if gd p0 12 = true then (Option.bind (f_X8_mark p0 p1 σ4) (fun σ7 => some ((sA σ4 18 0 (p0).toNatClampNeg), (sGu σ7 27 0 (0 : Int32))))) else none))))
def rm_X8_put : Room := { frames := 4, cells := 0, slots := 0, locals := 200 }
theorem hd_X8_put : yX8_put.cls = RX8 ∧ yX8_put.cls ≠ "java/lang/invoke/MethodHandle" ∧ yX8_put.cls ≠ "java/lang/invoke/VarHandle" ∧ (parseMethodDescriptor yX8_put.desc).map (fun d => d.parameters.length) = some 2 := by decide +kernel
set_option maxHeartbeats 4000000 in
set_option maxRecDepth 100000 in
theorem c_X8_put (l : Launch) {D : va_G} {Y : Nat → ClassId} {A : ss_A} (hAD : AD 1 A) {p0 : Int32} {p1 : Int32}  {r : Int32} {σ σ' : ss_M} (hf : f_X8_put p0 p1 σ = some (r, σ')) : Met l yX8_put wsX8_put rm_X8_put (Pc0 1 D Y A σ [.ref (A 0 7 0), .int p0, .int p1]) (Qi0 1 D Y A r σ') 0 0 (FA 1 A) := by
  rw [f_X8_put] at hf
  refine Met0 (cc := cX8_put) (maxL := 4) (ret := (some .int)) (own := RX8) (by decide +kernel) rfl hAD rfl (Nat.le_of_ble_eq_true rfl) ?_
  intro p e s m args below meth c S hr hlocks hW ls hl
  obtain ⟨hx, hb, hml, hown, hts⟩ := id S
  have iX8 : ∀ q ∈ wsX80, q ∈ wsX8_put := fun q h => List.mem_cons_of_mem _ (List.mem_append_right _ (h))
  have hl : lv_has ls 4 [(0, .ref (A 0 7 0)), (1, .int p0), (2, .int p1)] := hl
  refine lv_aload_n hx hb dX8_put_0 rfl (lv_at hl 0 rfl) ?_
  refine lv_iload_n hx hb dX8_put_1 rfl (lv_at hl 1 rfl) ?_
  obtain ⟨r1, σ1, hf1, hf⟩ := ss_bd_some hf
  refine rv_i S (c_X8_isPiece l hAD  hf1) (cwV 1 hts gX8_put_X8_isPiece rfl rfl rfl hd_X8_isPiece ⟨(Nat.le_of_ble_eq_true rfl), (Nat.le_of_ble_eq_true rfl)⟩) hW (kS_in (by decide)) rfl rfl rfl hl.1 (Nat.le_of_ble_eq_true rfl) ⟨Nat.zero_le _, Nat.zero_le _⟩ dX8_put_2 (fun H locs hW => ?_)
  have J15 : ∀ (σ15_ : ss_M) (H : Heap) (locs : List Loc) (ls : Array Slot), sW 1 D Y A σ15_ s s.heap H locs → lv_has ls 4 [(0, .ref (A 0 7 0))] → f_X8_put_j15 σ15_ = some (r, σ') → W p l e rm_X8_put s m args below meth c H locs 0 0 (MQ below (Qi0 1 D Y A r σ') args s 0 0 (FA 1 A)) (F0 m 15 ls []) := by
    intro σ15_ H locs ls hW hl hf
    rw [f_X8_put_j15] at hf
    refine lv_aload_n hx hb dX8_put_15 rfl (lv_at hl 0 rfl) ?_
    obtain ⟨r2, σ2, hf2, hf⟩ := ss_bd_some hf
    refine rv_i S (c_X8_ten l hAD  hf2) (cwV 0 hts gX8_put_X8_ten rfl rfl rfl hd_X8_ten ⟨(Nat.le_of_ble_eq_true rfl), (Nat.le_of_ble_eq_true rfl)⟩) hW (kS_in (by decide)) rfl rfl rfl hl.1 (Nat.le_of_ble_eq_true rfl) ⟨Nat.zero_le _, Nat.zero_le _⟩ dX8_put_16 (fun H locs hW => ?_)
    exact re_i hx hb hr hlocks hW (Option.some.inj hf) dX8_put_19
  refine lv_if_eq (tgt := 15) hx hb dX8_put_5 (by decide) (fun q3 => ?_) (fun q3 => ?_)
  · rw [if_pos q3] at hf
    exact J15 σ1 _ _ _ hW (lv_sub hl [0] rfl) hf
  · rw [if_neg q3] at hf
    refine lv_iload_n hx hb dX8_put_8 rfl (lv_at hl 2 rfl) ?_
    obtain ⟨r4, σ4, hf4, hf⟩ := ss_bd_some hf
    refine rt_i S (c_X8_isKind l hAD  hf4) (va_cwS 1 hts gX8_put_X8_isKind rfl rfl rfl hd_X8_isKind ⟨(Nat.le_of_ble_eq_true rfl), (Nat.le_of_ble_eq_true rfl)⟩) hW rfl rfl hl.1 (Nat.le_of_ble_eq_true rfl) ⟨Nat.zero_le _, Nat.zero_le _⟩ dX8_put_9 (fun H locs hW => ?_)
    refine lv_if_ne (tgt := 20) hx hb dX8_put_12 (by decide) (fun q5 => ?_) (fun q5 => ?_)
    · rw [if_neg q5] at hf
      refine lv_aload_n hx hb dX8_put_20 rfl (lv_at hl 0 rfl) ?_
      refine gf_X8_kinds hx hb hts hown hW (kS_in (by decide)) iX8 (List.mem_of_getElem? (i := 1) rfl) dX8_put_21 ?_
      refine lv_iload_n hx hb dX8_put_24 rfl (lv_at hl 1 rfl) ?_
      obtain ⟨g6, hf⟩ := ss_if hf
      refine ra_i hx hb hW (kS_in (by decide)) g6 dX8_put_25 ?_
      refine lv_istore_n (lv' := [(3, .int (sA σ4 18 0 (p0).toNatClampNeg)), (0, .ref (A 0 7 0)), (1, .int p0), (2, .int p1)]) hx hb dX8_put_26 rfl hl (by decide) rfl (fun ls hl => ?_)
      refine lv_aload_n hx hb dX8_put_27 rfl (lv_at hl 1 rfl) ?_
      refine lv_iload_n hx hb dX8_put_28 rfl (lv_at hl 2 rfl) ?_
      refine lv_iload_n hx hb dX8_put_29 rfl (lv_at hl 3 rfl) ?_
      obtain ⟨σ7, hf7, hf⟩ := ss_bind hf
      refine rv_v S (c_X8_mark l hAD  hf7) (cwV 2 hts gX8_put_X8_mark rfl rfl rfl hd_X8_mark ⟨(Nat.le_of_ble_eq_true rfl), (Nat.le_of_ble_eq_true rfl)⟩) hW (kS_in (by decide)) rfl rfl rfl hl.1 (Nat.le_of_ble_eq_true rfl) ⟨Nat.zero_le _, Nat.zero_le _⟩ dX8_put_30 (fun H locs hW => ?_)
      refine lv_aload_n hx hb dX8_put_33 rfl (lv_at hl 1 rfl) ?_
      refine lv_iconst (v := (0 : Int32)) hx hb dX8_put_34 (by decide) ?_
      refine pf_X8_undoMany hx hb hts hown hW (kS_in (by decide)) iX8 (List.mem_of_getElem? (i := 2) rfl) dX8_put_35 (fun H locs hW => ?_)
      refine lv_iload_n hx hb dX8_put_38 rfl (lv_at hl 0 rfl) ?_
      exact re_i hx hb hr hlocks hW (Option.some.inj hf) dX8_put_39
    · rw [if_pos q5] at hf
      exact J15 σ4 _ _ _ hW (lv_sub hl [0] rfl) hf
def f_X8_type (p0 : Int32) (σ : ss_M) : Option (Int32 × ss_M) :=
  ss_bd (f_X8_in p0 (0 : Int32) (127 : Int32) σ) (fun r1 σ1 => if r1 = (0 : Int32) then (ss_bd (f_X8_bad σ1) (fun r7 σ7 => some (r7, σ7))) else (if (sG σ1 23 0) = (150 : Int32) then (ss_bd (f_X8_full σ1) (fun r6 σ6 => some (r6, σ6))) else (if gd (sG σ1 23 0) 150 = true then (ss_let (sGu (sAu σ1 21 0 (upd (sA σ1 21 0) ((sG σ1 23 0)).toNatClampNeg p0)) 23 0 ((sG (sAu σ1 21 0 (upd (sA σ1 21 0) ((sG σ1 23 0)).toNatClampNeg p0)) 23 0) + (1 : Int32))) (fun σm5 => some ((sG σm5 23 0), σm5))) else none)))
def rm_X8_type : Room := { frames := 2, cells := 0, slots := 0, locals := 100 }
theorem hd_X8_type : yX8_type.cls = RX8 ∧ yX8_type.cls ≠ "java/lang/invoke/MethodHandle" ∧ yX8_type.cls ≠ "java/lang/invoke/VarHandle" ∧ (parseMethodDescriptor yX8_type.desc).map (fun d => d.parameters.length) = some 1 := by decide +kernel
set_option maxHeartbeats 4000000 in
set_option maxRecDepth 100000 in
theorem c_X8_type (l : Launch) {D : va_G} {Y : Nat → ClassId} {A : ss_A} (hAD : AD 1 A) {p0 : Int32}  {r : Int32} {σ σ' : ss_M} (hf : f_X8_type p0 σ = some (r, σ')) : Met l yX8_type wsX8_type rm_X8_type (Pc0 1 D Y A σ [.ref (A 0 7 0), .int p0]) (Qi0 1 D Y A r σ') 0 0 (FA 1 A) := by
  rw [f_X8_type] at hf
  refine Met0 (cc := cX8_type) (maxL := 2) (ret := (some .int)) (own := RX8) (by decide +kernel) rfl hAD rfl (Nat.le_of_ble_eq_true rfl) ?_
  intro p e s m args below meth c S hr hlocks hW ls hl
  obtain ⟨hx, hb, hml, hown, hts⟩ := id S
  have iX8 : ∀ q ∈ wsX80, q ∈ wsX8_type := fun q h => List.mem_cons_of_mem _ (List.mem_append_right _ (h))
  have hl : lv_has ls 2 [(0, .ref (A 0 7 0)), (1, .int p0)] := hl
  refine lv_iload_n hx hb dX8_type_0 rfl (lv_at hl 1 rfl) ?_
  refine lv_iconst (v := (0 : Int32)) hx hb dX8_type_1 (by decide) ?_
  refine lv_bipush (v := (127 : Int32)) hx hb dX8_type_2 (by decide) ?_
  obtain ⟨r1, σ1, hf1, hf⟩ := ss_bd_some hf
  refine rt_i S (c_X8_in l hAD  hf1) (va_cwS 3 hts gX8_type_X8_in rfl rfl rfl hd_X8_in ⟨(Nat.le_of_ble_eq_true rfl), (Nat.le_of_ble_eq_true rfl)⟩) hW rfl rfl hl.1 (Nat.le_of_ble_eq_true rfl) ⟨Nat.zero_le _, Nat.zero_le _⟩ dX8_type_4 (fun H locs hW => ?_)
  refine lv_if_ne (tgt := 15) hx hb dX8_type_7 (by decide) (fun q2 => ?_) (fun q2 => ?_)
  · rw [if_neg q2] at hf
    refine lv_aload_n hx hb dX8_type_15 rfl (lv_at hl 0 rfl) ?_
    refine gf_X8_typed hx hb hts hown hW (kS_in (by decide)) iX8 (List.mem_of_getElem? (i := 1) rfl) dX8_type_16 ?_
    refine lv_sipush (v := (150 : Int32)) hx hb dX8_type_19 (by decide) ?_
    refine lv_icmp_ne (tgt := 30) hx hb dX8_type_22 (by decide) (fun q3 => ?_) (fun q3 => ?_)
    · rw [if_neg q3] at hf
      refine lv_aload_n hx hb dX8_type_30 rfl (lv_at hl 0 rfl) ?_
      refine gf_X8_text hx hb hts hown hW (kS_in (by decide)) iX8 (List.mem_of_getElem? (i := 2) rfl) dX8_type_31 ?_
      refine lv_aload_n hx hb dX8_type_34 rfl (lv_at hl 0 rfl) ?_
      refine gf_X8_typed hx hb hts hown hW (kS_in (by decide)) iX8 (List.mem_of_getElem? (i := 1) rfl) dX8_type_35 ?_
      refine lv_iload_n hx hb dX8_type_38 rfl (lv_at hl 1 rfl) ?_
      obtain ⟨g4, hf⟩ := ss_if hf
      refine rs_i hx hb hW (kS_in (by decide)) g4 dX8_type_39 (fun H locs hW => ?_)
      refine lv_aload_n hx hb dX8_type_40 rfl (lv_at hl 0 rfl) ?_
      refine lv_dup hx hb dX8_type_41 rfl ?_
      refine gf_X8_typed hx hb hts hown hW (kS_in (by decide)) iX8 (List.mem_of_getElem? (i := 1) rfl) dX8_type_42 ?_
      refine lv_iconst (v := (1 : Int32)) hx hb dX8_type_45 (by decide) ?_
      refine lv_iadd hx hb dX8_type_46 ?_
      refine pf_X8_typed hx hb hts hown hW (kS_in (by decide)) iX8 (List.mem_of_getElem? (i := 1) rfl) dX8_type_47 (fun H locs hW => ?_)
      obtain ⟨σm5, eσm5, hf⟩ := ss_let_some hf
      rw [← eσm5] at hW
      refine lv_aload_n hx hb dX8_type_50 rfl (lv_at hl 0 rfl) ?_
      refine gf_X8_typed hx hb hts hown hW (kS_in (by decide)) iX8 (List.mem_of_getElem? (i := 1) rfl) dX8_type_51 ?_
      exact re_i hx hb hr hlocks hW (Option.some.inj hf) dX8_type_54
    · rw [if_pos q3] at hf
      refine lv_aload_n hx hb dX8_type_25 rfl (lv_at hl 0 rfl) ?_
      obtain ⟨r6, σ6, hf6, hf⟩ := ss_bd_some hf
      refine rv_i S (c_X8_full l hAD  hf6) (cwV 0 hts gX8_type_X8_full rfl rfl rfl hd_X8_full ⟨(Nat.le_of_ble_eq_true rfl), (Nat.le_of_ble_eq_true rfl)⟩) hW (kS_in (by decide)) rfl rfl rfl hl.1 (Nat.le_of_ble_eq_true rfl) ⟨Nat.zero_le _, Nat.zero_le _⟩ dX8_type_26 (fun H locs hW => ?_)
      exact re_i hx hb hr hlocks hW (Option.some.inj hf) dX8_type_29
  · rw [if_pos q2] at hf
    refine lv_aload_n hx hb dX8_type_10 rfl (lv_at hl 0 rfl) ?_
    obtain ⟨r7, σ7, hf7, hf⟩ := ss_bd_some hf
    refine rv_i S (c_X8_bad l hAD  hf7) (cwV 0 hts gX8_type_X8_bad rfl rfl rfl hd_X8_bad ⟨(Nat.le_of_ble_eq_true rfl), (Nat.le_of_ble_eq_true rfl)⟩) hW (kS_in (by decide)) rfl rfl rfl hl.1 (Nat.le_of_ble_eq_true rfl) ⟨Nat.zero_le _, Nat.zero_le _⟩ dX8_type_11 (fun H locs hW => ?_)
    exact re_i hx hb hr hlocks hW (Option.some.inj hf) dX8_type_14
def f_X8_clear (σ : ss_M) : Option (Int32 × ss_M) :=
  some ((sG σ 23 0), (sGu σ 23 0 (0 : Int32)))
def rm_X8_clear : Room := { frames := 0, cells := 0, slots := 0, locals := 0 }
theorem hd_X8_clear : yX8_clear.cls = RX8 ∧ yX8_clear.cls ≠ "java/lang/invoke/MethodHandle" ∧ yX8_clear.cls ≠ "java/lang/invoke/VarHandle" ∧ (parseMethodDescriptor yX8_clear.desc).map (fun d => d.parameters.length) = some 0 := by decide +kernel
set_option maxHeartbeats 4000000 in
set_option maxRecDepth 100000 in
theorem c_X8_clear (l : Launch) {D : va_G} {Y : Nat → ClassId} {A : ss_A} (hAD : AD 1 A)   {r : Int32} {σ σ' : ss_M} (hf : f_X8_clear σ = some (r, σ')) : Met l yX8_clear wsX8_clear rm_X8_clear (Pc0 1 D Y A σ [.ref (A 0 7 0)]) (Qi0 1 D Y A r σ') 0 0 (FA 1 A) := by
  rw [f_X8_clear] at hf
  refine Met0 (cc := cX8_clear) (maxL := 2) (ret := (some .int)) (own := RX8) (by decide +kernel) rfl hAD rfl (Nat.le_of_ble_eq_true rfl) ?_
  intro p e s m args below meth c S hr hlocks hW ls hl
  obtain ⟨hx, hb, hml, hown, hts⟩ := id S
  have iX8 : ∀ q ∈ wsX80, q ∈ wsX8_clear := fun q h => List.mem_cons_of_mem _ (List.mem_append_right _ (h))
  have hl : lv_has ls 2 [(0, .ref (A 0 7 0))] := hl
  refine lv_aload_n hx hb dX8_clear_0 rfl (lv_at hl 0 rfl) ?_
  refine gf_X8_typed hx hb hts hown hW (kS_in (by decide)) iX8 (List.mem_of_getElem? (i := 1) rfl) dX8_clear_1 ?_
  refine lv_istore_n (lv' := [(1, .int (sG σ 23 0)), (0, .ref (A 0 7 0))]) hx hb dX8_clear_4 rfl hl (by decide) rfl (fun ls hl => ?_)
  refine lv_aload_n hx hb dX8_clear_5 rfl (lv_at hl 1 rfl) ?_
  refine lv_iconst (v := (0 : Int32)) hx hb dX8_clear_6 (by decide) ?_
  refine pf_X8_typed hx hb hts hown hW (kS_in (by decide)) iX8 (List.mem_of_getElem? (i := 1) rfl) dX8_clear_7 (fun H locs hW => ?_)
  refine lv_iload_n hx hb dX8_clear_10 rfl (lv_at hl 0 rfl) ?_
  exact re_i hx hb hr hlocks hW (Option.some.inj hf) dX8_clear_11
def f_X8_here (σ : ss_M) : Option (Int32 × ss_M) :=
  if (sG σ 23 0) ≤ (sG σ 24 0) then (some ((-1 : Int32), σ)) else (if gd (sG σ 24 0) 150 = true then (some ((sA σ 21 0 ((sG σ 24 0)).toNatClampNeg), σ)) else none)
def rm_X8_here : Room := { frames := 0, cells := 0, slots := 0, locals := 0 }
theorem hd_X8_here : yX8_here.cls = RX8 ∧ yX8_here.cls ≠ "java/lang/invoke/MethodHandle" ∧ yX8_here.cls ≠ "java/lang/invoke/VarHandle" ∧ (parseMethodDescriptor yX8_here.desc).map (fun d => d.parameters.length) = some 0 := by decide +kernel
set_option maxHeartbeats 4000000 in
set_option maxRecDepth 100000 in
theorem c_X8_here (l : Launch) {D : va_G} {Y : Nat → ClassId} {A : ss_A} (hAD : AD 1 A)   {r : Int32} {σ σ' : ss_M} (hf : f_X8_here σ = some (r, σ')) : Met l yX8_here wsX8_here rm_X8_here (Pc0 1 D Y A σ [.ref (A 0 7 0)]) (Qi0 1 D Y A r σ') 0 0 (FA 1 A) := by
  rw [f_X8_here] at hf
  refine Met0 (cc := cX8_here) (maxL := 1) (ret := (some .int)) (own := RX8) (by decide +kernel) rfl hAD rfl (Nat.le_of_ble_eq_true rfl) ?_
  intro p e s m args below meth c S hr hlocks hW ls hl
  obtain ⟨hx, hb, hml, hown, hts⟩ := id S
  have iX8 : ∀ q ∈ wsX80, q ∈ wsX8_here := fun q h => List.mem_cons_of_mem _ (List.mem_append_right _ (h))
  have hl : lv_has ls 1 [(0, .ref (A 0 7 0))] := hl
  refine lv_aload_n hx hb dX8_here_0 rfl (lv_at hl 0 rfl) ?_
  refine gf_X8_readAt hx hb hts hown hW (kS_in (by decide)) iX8 (List.mem_of_getElem? (i := 1) rfl) dX8_here_1 ?_
  refine lv_aload_n hx hb dX8_here_4 rfl (lv_at hl 0 rfl) ?_
  refine gf_X8_typed hx hb hts hown hW (kS_in (by decide)) iX8 (List.mem_of_getElem? (i := 2) rfl) dX8_here_5 ?_
  refine lv_icmp_ge (tgt := 23) hx hb dX8_here_8 (by decide) (fun q1 => ?_) (fun q1 => ?_)
  · rw [if_pos q1] at hf
    refine lv_iconst (v := (-1 : Int32)) hx hb dX8_here_23 (by decide) ?_
    exact re_i hx hb hr hlocks hW (Option.some.inj hf) dX8_here_24
  · rw [if_neg q1] at hf
    refine lv_aload_n hx hb dX8_here_11 rfl (lv_at hl 0 rfl) ?_
    refine gf_X8_text hx hb hts hown hW (kS_in (by decide)) iX8 (List.mem_of_getElem? (i := 3) rfl) dX8_here_12 ?_
    refine lv_aload_n hx hb dX8_here_15 rfl (lv_at hl 0 rfl) ?_
    refine gf_X8_readAt hx hb hts hown hW (kS_in (by decide)) iX8 (List.mem_of_getElem? (i := 1) rfl) dX8_here_16 ?_
    obtain ⟨g2, hf⟩ := ss_if hf
    refine ra_i hx hb hW (kS_in (by decide)) g2 dX8_here_19 ?_
    refine lv_goto (tgt := 24) hx hb dX8_here_20 (by decide) ?_
    exact re_i hx hb hr hlocks hW (Option.some.inj hf) dX8_here_24
def f_X8_skip_L0 : Nat → ss_M → Option ss_M
  | 0, _ => none
  | n0 + 1, σ0_ => ss_bd (f_X8_here σ0_) (fun r1 σ1 => if r1 = (32 : Int32) then ((f_X8_skip_L0 n0) (sGu σ1 24 0 ((sG σ1 24 0) + (1 : Int32)))) else (some σ1))
def f_X8_skip (σ : ss_M) : Option ss_M :=
  f_X8_skip_L0 FU σ
def rm_X8_skip : Room := { frames := 2, cells := 0, slots := 0, locals := 100 }
theorem hd_X8_skip : yX8_skip.cls = RX8 ∧ yX8_skip.cls ≠ "java/lang/invoke/MethodHandle" ∧ yX8_skip.cls ≠ "java/lang/invoke/VarHandle" ∧ (parseMethodDescriptor yX8_skip.desc).map (fun d => d.parameters.length) = some 0 := by decide +kernel
set_option maxHeartbeats 4000000 in
set_option maxRecDepth 100000 in
theorem c_X8_skip (l : Launch) {D : va_G} {Y : Nat → ClassId} {A : ss_A} (hAD : AD 1 A)   {σ σ' : ss_M} (hf : f_X8_skip σ = some σ') : Met l yX8_skip wsX8_skip rm_X8_skip (Pc0 1 D Y A σ [.ref (A 0 7 0)]) (Qv0 1 D Y A σ') 0 0 (FA 1 A) := by
  rw [f_X8_skip] at hf
  refine Met0 (cc := cX8_skip) (maxL := 1) (ret := none) (own := RX8) (by decide +kernel) rfl hAD rfl (Nat.le_of_ble_eq_true rfl) ?_
  intro p e s m args below meth c S hr hlocks hW ls hl
  obtain ⟨hx, hb, hml, hown, hts⟩ := id S
  have iX8 : ∀ q ∈ wsX80, q ∈ wsX8_skip := fun q h => List.mem_cons_of_mem _ (List.mem_append_right _ (h))
  have hl : lv_has ls 1 [(0, .ref (A 0 7 0))] := hl
  have L0 : ∀ (n0 : Nat), ∀ (σ0_ : ss_M) (H : Heap) (locs : List Loc) (ls : Array Slot), sW 1 D Y A σ0_ s s.heap H locs → lv_has ls 1 [(0, .ref (A 0 7 0))] → f_X8_skip_L0 n0 σ0_ = some σ' → W p l e rm_X8_skip s m args below meth c H locs 0 0 (MQ below (Qv0 1 D Y A σ') args s 0 0 (FA 1 A)) (F0 m 0 ls []) := by
    intro n0
    induction n0 with
    | zero =>
      intro σ0_ H locs ls hW hl hf
      rw [f_X8_skip_L0] at hf
      cases hf
    | succ n0 ih0 =>
      intro σ0_ H locs ls hW hl hf
      rw [f_X8_skip_L0] at hf
      refine lv_aload_n hx hb dX8_skip_0 rfl (lv_at hl 0 rfl) ?_
      obtain ⟨r1, σ1, hf1, hf⟩ := ss_bd_some hf
      refine rv_i S (c_X8_here l hAD  hf1) (cwV 0 hts gX8_skip_X8_here rfl rfl rfl hd_X8_here ⟨(Nat.le_of_ble_eq_true rfl), (Nat.le_of_ble_eq_true rfl)⟩) hW (kS_in (by decide)) rfl rfl rfl hl.1 (Nat.le_of_ble_eq_true rfl) ⟨Nat.zero_le _, Nat.zero_le _⟩ dX8_skip_1 (fun H locs hW => ?_)
      refine lv_bipush (v := (32 : Int32)) hx hb dX8_skip_4 (by decide) ?_
      refine lv_icmp_ne (tgt := 22) hx hb dX8_skip_6 (by decide) (fun q2 => ?_) (fun q2 => ?_)
      · rw [if_neg q2] at hf
        exact re_v hx hb hr hlocks hW (Option.some.inj hf) dX8_skip_22
      · rw [if_pos q2] at hf
        refine lv_aload_n hx hb dX8_skip_9 rfl (lv_at hl 0 rfl) ?_
        refine lv_dup hx hb dX8_skip_10 rfl ?_
        refine gf_X8_readAt hx hb hts hown hW (kS_in (by decide)) iX8 (List.mem_of_getElem? (i := 1) rfl) dX8_skip_11 ?_
        refine lv_iconst (v := (1 : Int32)) hx hb dX8_skip_14 (by decide) ?_
        refine lv_iadd hx hb dX8_skip_15 ?_
        refine pf_X8_readAt hx hb hts hown hW (kS_in (by decide)) iX8 (List.mem_of_getElem? (i := 1) rfl) dX8_skip_16 (fun H locs hW => ?_)
        refine lv_goto (tgt := 0) hx hb dX8_skip_19 (by decide) ?_
        exact ih0 (sGu σ1 24 0 ((sG σ1 24 0) + (1 : Int32))) _ _ _ hW (lv_sub hl [0] rfl) hf
  exact L0 FU σ _ _ _ hW (lv_sub hl [0] rfl) hf
def f_X8_isLetter (p0 : Int32) (σ : ss_M) : Option (Int32 × ss_M) :=
  ss_bd (f_X8_in p0 (97 : Int32) (122 : Int32) σ) (fun r1 σ1 => if r1 &&& (1 : Int32) = r1 then (some (r1, σ1)) else none)
def rm_X8_isLetter : Room := { frames := 2, cells := 0, slots := 0, locals := 100 }
theorem hd_X8_isLetter : yX8_isLetter.cls ≠ "java/lang/invoke/MethodHandle" ∧ yX8_isLetter.cls ≠ "java/lang/invoke/VarHandle" ∧ (parseMethodDescriptor yX8_isLetter.desc).map (fun d => d.parameters.length) = some 1 := by decide +kernel
set_option maxHeartbeats 4000000 in
set_option maxRecDepth 100000 in
theorem c_X8_isLetter (l : Launch) {D : va_G} {Y : Nat → ClassId} {A : ss_A} (hAD : AD 1 A) {p0 : Int32}  {r : Int32} {σ σ' : ss_M} (hf : f_X8_isLetter p0 σ = some (r, σ')) : Met l yX8_isLetter wsX8_isLetter rm_X8_isLetter (Pc0 1 D Y A σ [.int p0]) (Qi0 1 D Y A r σ') 0 0 (FA 1 A) := by
  rw [f_X8_isLetter] at hf
  refine Met0 (cc := cX8_isLetter) (maxL := 1) (ret := (some .boolean)) (own := RX8) (by decide +kernel) rfl hAD rfl (Nat.le_of_ble_eq_true rfl) ?_
  intro p e s m args below meth c S hr hlocks hW ls hl
  obtain ⟨hx, hb, hml, hown, hts⟩ := id S
  have hl : lv_has ls 1 [(0, .int p0)] := hl
  refine lv_iload_n hx hb dX8_isLetter_0 rfl (lv_at hl 0 rfl) ?_
  refine lv_bipush (v := (97 : Int32)) hx hb dX8_isLetter_1 (by decide) ?_
  refine lv_bipush (v := (122 : Int32)) hx hb dX8_isLetter_3 (by decide) ?_
  obtain ⟨r1, σ1, hf1, hf⟩ := ss_bd_some hf
  refine rt_i S (c_X8_in l hAD  hf1) (va_cwS 3 hts gX8_isLetter_X8_in rfl rfl rfl hd_X8_in ⟨(Nat.le_of_ble_eq_true rfl), (Nat.le_of_ble_eq_true rfl)⟩) hW rfl rfl hl.1 (Nat.le_of_ble_eq_true rfl) ⟨Nat.zero_le _, Nat.zero_le _⟩ dX8_isLetter_5 (fun H locs hW => ?_)
  obtain ⟨g2, hf⟩ := ss_if hf
  exact re_z hx hb hr hlocks hW g2 (Option.some.inj hf) dX8_isLetter_8
def f_X8_isFigure (p0 : Int32) (σ : ss_M) : Option (Int32 × ss_M) :=
  ss_bd (f_X8_in p0 (48 : Int32) (57 : Int32) σ) (fun r1 σ1 => if r1 &&& (1 : Int32) = r1 then (some (r1, σ1)) else none)
def rm_X8_isFigure : Room := { frames := 2, cells := 0, slots := 0, locals := 100 }
theorem hd_X8_isFigure : yX8_isFigure.cls ≠ "java/lang/invoke/MethodHandle" ∧ yX8_isFigure.cls ≠ "java/lang/invoke/VarHandle" ∧ (parseMethodDescriptor yX8_isFigure.desc).map (fun d => d.parameters.length) = some 1 := by decide +kernel
set_option maxHeartbeats 4000000 in
set_option maxRecDepth 100000 in
theorem c_X8_isFigure (l : Launch) {D : va_G} {Y : Nat → ClassId} {A : ss_A} (hAD : AD 1 A) {p0 : Int32}  {r : Int32} {σ σ' : ss_M} (hf : f_X8_isFigure p0 σ = some (r, σ')) : Met l yX8_isFigure wsX8_isFigure rm_X8_isFigure (Pc0 1 D Y A σ [.int p0]) (Qi0 1 D Y A r σ') 0 0 (FA 1 A) := by
  rw [f_X8_isFigure] at hf
  refine Met0 (cc := cX8_isFigure) (maxL := 1) (ret := (some .boolean)) (own := RX8) (by decide +kernel) rfl hAD rfl (Nat.le_of_ble_eq_true rfl) ?_
  intro p e s m args below meth c S hr hlocks hW ls hl
  obtain ⟨hx, hb, hml, hown, hts⟩ := id S
  have hl : lv_has ls 1 [(0, .int p0)] := hl
  refine lv_iload_n hx hb dX8_isFigure_0 rfl (lv_at hl 0 rfl) ?_
  refine lv_bipush (v := (48 : Int32)) hx hb dX8_isFigure_1 (by decide) ?_
  refine lv_bipush (v := (57 : Int32)) hx hb dX8_isFigure_3 (by decide) ?_
  obtain ⟨r1, σ1, hf1, hf⟩ := ss_bd_some hf
  refine rt_i S (c_X8_in l hAD  hf1) (va_cwS 3 hts gX8_isFigure_X8_in rfl rfl rfl hd_X8_in ⟨(Nat.le_of_ble_eq_true rfl), (Nat.le_of_ble_eq_true rfl)⟩) hW rfl rfl hl.1 (Nat.le_of_ble_eq_true rfl) ⟨Nat.zero_le _, Nat.zero_le _⟩ dX8_isFigure_5 (fun H locs hW => ?_)
  obtain ⟨g2, hf⟩ := ss_if hf
  exact re_z hx hb hr hlocks hW g2 (Option.some.inj hf) dX8_isFigure_8
def f_X8_wordSize_L2 : Nat → Int32 → ss_M → Option (Int32 × ss_M)
  | 0, _, _ => none
  | n2 + 1, x2_1, σ2_ => if (sG σ2_ 23 0) ≤ ((sG σ2_ 24 0) + x2_1) then (some (x2_1, σ2_)) else (if gd ((sG σ2_ 24 0) + x2_1) 150 = true then (ss_bd (f_X8_isLetter (sA σ2_ 21 0 (((sG σ2_ 24 0) + x2_1)).toNatClampNeg) σ2_) (fun r3 σ3 => if r3 = (0 : Int32) then (some (x2_1, σ3)) else ((f_X8_wordSize_L2 n2) (x2_1 + (1 : Int32)) σ3))) else none)
def f_X8_wordSize (σ : ss_M) : Option (Int32 × ss_M) :=
  f_X8_wordSize_L2 FU (0 : Int32) σ
def rm_X8_wordSize : Room := { frames := 4, cells := 0, slots := 0, locals := 200 }
theorem hd_X8_wordSize : yX8_wordSize.cls = RX8 ∧ yX8_wordSize.cls ≠ "java/lang/invoke/MethodHandle" ∧ yX8_wordSize.cls ≠ "java/lang/invoke/VarHandle" ∧ (parseMethodDescriptor yX8_wordSize.desc).map (fun d => d.parameters.length) = some 0 := by decide +kernel
set_option maxHeartbeats 4000000 in
set_option maxRecDepth 100000 in
theorem c_X8_wordSize (l : Launch) {D : va_G} {Y : Nat → ClassId} {A : ss_A} (hAD : AD 1 A)   {r : Int32} {σ σ' : ss_M} (hf : f_X8_wordSize σ = some (r, σ')) : Met l yX8_wordSize wsX8_wordSize rm_X8_wordSize (Pc0 1 D Y A σ [.ref (A 0 7 0)]) (Qi0 1 D Y A r σ') 0 0 (FA 1 A) := by
  rw [f_X8_wordSize] at hf
  refine Met0 (cc := cX8_wordSize) (maxL := 2) (ret := (some .int)) (own := RX8) (by decide +kernel) rfl hAD rfl (Nat.le_of_ble_eq_true rfl) ?_
  intro p e s m args below meth c S hr hlocks hW ls hl
  obtain ⟨hx, hb, hml, hown, hts⟩ := id S
  have iX8 : ∀ q ∈ wsX80, q ∈ wsX8_wordSize := fun q h => List.mem_cons_of_mem _ (List.mem_append_right _ (h))
  have hl : lv_has ls 2 [(0, .ref (A 0 7 0))] := hl
  refine lv_iconst (v := (0 : Int32)) hx hb dX8_wordSize_0 (by decide) ?_
  refine lv_istore_n (lv' := [(1, .int (0 : Int32)), (0, .ref (A 0 7 0))]) hx hb dX8_wordSize_1 rfl hl (by decide) rfl (fun ls hl => ?_)
  have L2 : ∀ (n2 : Nat), ∀ (x2_1 : Int32) (σ2_ : ss_M) (H : Heap) (locs : List Loc) (ls : Array Slot), sW 1 D Y A σ2_ s s.heap H locs → lv_has ls 2 [(0, .ref (A 0 7 0)), (1, .int x2_1)] → f_X8_wordSize_L2 n2 x2_1 σ2_ = some (r, σ') → W p l e rm_X8_wordSize s m args below meth c H locs 0 0 (MQ below (Qi0 1 D Y A r σ') args s 0 0 (FA 1 A)) (F0 m 2 ls []) := by
    intro n2
    induction n2 with
    | zero =>
      intro x2_1 σ2_ H locs ls hW hl hf
      rw [f_X8_wordSize_L2] at hf
      cases hf
    | succ n2 ih2 =>
      intro x2_1 σ2_ H locs ls hW hl hf
      rw [f_X8_wordSize_L2] at hf
      refine lv_aload_n hx hb dX8_wordSize_2 rfl (lv_at hl 0 rfl) ?_
      refine gf_X8_readAt hx hb hts hown hW (kS_in (by decide)) iX8 (List.mem_of_getElem? (i := 1) rfl) dX8_wordSize_3 ?_
      refine lv_iload_n hx hb dX8_wordSize_6 rfl (lv_at hl 1 rfl) ?_
      refine lv_iadd hx hb dX8_wordSize_7 ?_
      refine lv_aload_n hx hb dX8_wordSize_8 rfl (lv_at hl 0 rfl) ?_
      refine gf_X8_typed hx hb hts hown hW (kS_in (by decide)) iX8 (List.mem_of_getElem? (i := 2) rfl) dX8_wordSize_9 ?_
      refine lv_icmp_ge (tgt := 38) hx hb dX8_wordSize_12 (by decide) (fun q1 => ?_) (fun q1 => ?_)
      · rw [if_pos q1] at hf
        refine lv_iload_n hx hb dX8_wordSize_38 rfl (lv_at hl 1 rfl) ?_
        exact re_i hx hb hr hlocks hW (Option.some.inj hf) dX8_wordSize_39
      · rw [if_neg q1] at hf
        refine lv_aload_n hx hb dX8_wordSize_15 rfl (lv_at hl 0 rfl) ?_
        refine gf_X8_text hx hb hts hown hW (kS_in (by decide)) iX8 (List.mem_of_getElem? (i := 3) rfl) dX8_wordSize_16 ?_
        refine lv_aload_n hx hb dX8_wordSize_19 rfl (lv_at hl 0 rfl) ?_
        refine gf_X8_readAt hx hb hts hown hW (kS_in (by decide)) iX8 (List.mem_of_getElem? (i := 1) rfl) dX8_wordSize_20 ?_
        refine lv_iload_n hx hb dX8_wordSize_23 rfl (lv_at hl 1 rfl) ?_
        refine lv_iadd hx hb dX8_wordSize_24 ?_
        obtain ⟨g2, hf⟩ := ss_if hf
        refine ra_i hx hb hW (kS_in (by decide)) g2 dX8_wordSize_25 ?_
        obtain ⟨r3, σ3, hf3, hf⟩ := ss_bd_some hf
        refine rt_i S (c_X8_isLetter l hAD  hf3) (va_cwS 1 hts gX8_wordSize_X8_isLetter rfl rfl rfl hd_X8_isLetter ⟨(Nat.le_of_ble_eq_true rfl), (Nat.le_of_ble_eq_true rfl)⟩) hW rfl rfl hl.1 (Nat.le_of_ble_eq_true rfl) ⟨Nat.zero_le _, Nat.zero_le _⟩ dX8_wordSize_26 (fun H locs hW => ?_)
        refine lv_if_eq (tgt := 38) hx hb dX8_wordSize_29 (by decide) (fun q4 => ?_) (fun q4 => ?_)
        · rw [if_pos q4] at hf
          refine lv_iload_n hx hb dX8_wordSize_38 rfl (lv_at hl 1 rfl) ?_
          exact re_i hx hb hr hlocks hW (Option.some.inj hf) dX8_wordSize_39
        · rw [if_neg q4] at hf
          refine lv_iinc (v := (x2_1 + (1 : Int32))) (lv' := [(1, .int (x2_1 + (1 : Int32))), (0, .ref (A 0 7 0))]) hx hb dX8_wordSize_32 hl (k := 1) rfl rfl (by decide) rfl (fun ls hl => ?_)
          refine lv_goto (tgt := 2) hx hb dX8_wordSize_35 (by decide) ?_
          exact ih2 (x2_1 + (1 : Int32)) σ3 _ _ _ hW (lv_sub hl [1, 0] rfl) hf
  exact L2 FU (0 : Int32) σ _ _ _ hW (lv_sub hl [1, 0] rfl) hf
def f_X8_letter (p0 : Int32) (σ : ss_M) : Option (Int32 × ss_M) :=
  if gd ((sG σ 24 0) + p0) 150 = true then (some ((sA σ 21 0 (((sG σ 24 0) + p0)).toNatClampNeg), σ)) else none
def rm_X8_letter : Room := { frames := 0, cells := 0, slots := 0, locals := 0 }
theorem hd_X8_letter : yX8_letter.cls = RX8 ∧ yX8_letter.cls ≠ "java/lang/invoke/MethodHandle" ∧ yX8_letter.cls ≠ "java/lang/invoke/VarHandle" ∧ (parseMethodDescriptor yX8_letter.desc).map (fun d => d.parameters.length) = some 1 := by decide +kernel
set_option maxHeartbeats 4000000 in
set_option maxRecDepth 100000 in
theorem c_X8_letter (l : Launch) {D : va_G} {Y : Nat → ClassId} {A : ss_A} (hAD : AD 1 A) {p0 : Int32}  {r : Int32} {σ σ' : ss_M} (hf : f_X8_letter p0 σ = some (r, σ')) : Met l yX8_letter wsX8_letter rm_X8_letter (Pc0 1 D Y A σ [.ref (A 0 7 0), .int p0]) (Qi0 1 D Y A r σ') 0 0 (FA 1 A) := by
  rw [f_X8_letter] at hf
  refine Met0 (cc := cX8_letter) (maxL := 2) (ret := (some .int)) (own := RX8) (by decide +kernel) rfl hAD rfl (Nat.le_of_ble_eq_true rfl) ?_
  intro p e s m args below meth c S hr hlocks hW ls hl
  obtain ⟨hx, hb, hml, hown, hts⟩ := id S
  have iX8 : ∀ q ∈ wsX80, q ∈ wsX8_letter := fun q h => List.mem_cons_of_mem _ (List.mem_append_right _ (h))
  have hl : lv_has ls 2 [(0, .ref (A 0 7 0)), (1, .int p0)] := hl
  refine lv_aload_n hx hb dX8_letter_0 rfl (lv_at hl 0 rfl) ?_
  refine gf_X8_text hx hb hts hown hW (kS_in (by decide)) iX8 (List.mem_of_getElem? (i := 1) rfl) dX8_letter_1 ?_
  refine lv_aload_n hx hb dX8_letter_4 rfl (lv_at hl 0 rfl) ?_
  refine gf_X8_readAt hx hb hts hown hW (kS_in (by decide)) iX8 (List.mem_of_getElem? (i := 2) rfl) dX8_letter_5 ?_
  refine lv_iload_n hx hb dX8_letter_8 rfl (lv_at hl 1 rfl) ?_
  refine lv_iadd hx hb dX8_letter_9 ?_
  obtain ⟨g1, hf⟩ := ss_if hf
  refine ra_i hx hb hW (kS_in (by decide)) g1 dX8_letter_10 ?_
  exact re_i hx hb hr hlocks hW (Option.some.inj hf) dX8_letter_11
def f_X8_wordHere_j141 (s57_0 : Int32) (s99_0 : Int32) (s141_0 : Int32) (σ141_ : ss_M) : Option (Int32 × ss_M) :=
  if s57_0 = (0 : Int32) then (if s99_0 = (0 : Int32) then (if s141_0 = (0 : Int32) then (some ((-1 : Int32), σ141_)) else (some ((2 : Int32), σ141_))) else (some ((1 : Int32), σ141_))) else (some ((0 : Int32), σ141_))
def f_X8_wordHere_j140 (s57_0 : Int32) (s99_0 : Int32) (σ140_ : ss_M) : Option (Int32 × ss_M) :=
  f_X8_wordHere_j141 s57_0 s99_0 (0 : Int32) σ140_
def f_X8_wordHere_j99 (r3 : Int32) (s57_0 : Int32) (s99_0 : Int32) (σ99_ : ss_M) : Option (Int32 × ss_M) :=
  if r3 = (109 : Int32) then (ss_bd (f_X8_letter (1 : Int32) σ99_) (fun r8 σ8 => if r8 = (97 : Int32) then (ss_bd (f_X8_letter (2 : Int32) σ8) (fun r10 σ10 => if r10 = (114 : Int32) then (ss_bd (f_X8_letter (3 : Int32) σ10) (fun r12 σ12 => if r12 = (107 : Int32) then (f_X8_wordHere_j141 s57_0 s99_0 (1 : Int32) σ12) else (f_X8_wordHere_j140 s57_0 s99_0 σ12))) else (f_X8_wordHere_j140 s57_0 s99_0 σ10))) else (f_X8_wordHere_j140 s57_0 s99_0 σ8))) else (f_X8_wordHere_j140 s57_0 s99_0 σ99_)
def f_X8_wordHere_j98 (r3 : Int32) (s57_0 : Int32) (σ98_ : ss_M) : Option (Int32 × ss_M) :=
  f_X8_wordHere_j99 r3 s57_0 (0 : Int32) σ98_
def f_X8_wordHere_j57 (r3 : Int32) (s57_0 : Int32) (σ57_ : ss_M) : Option (Int32 × ss_M) :=
  if r3 = (119 : Int32) then (ss_bd (f_X8_letter (1 : Int32) σ57_) (fun r15 σ15 => if r15 = (111 : Int32) then (ss_bd (f_X8_letter (2 : Int32) σ15) (fun r17 σ17 => if r17 = (114 : Int32) then (ss_bd (f_X8_letter (3 : Int32) σ17) (fun r19 σ19 => if r19 = (100 : Int32) then (f_X8_wordHere_j99 r3 s57_0 (1 : Int32) σ19) else (f_X8_wordHere_j98 r3 s57_0 σ19))) else (f_X8_wordHere_j98 r3 s57_0 σ17))) else (f_X8_wordHere_j98 r3 s57_0 σ15))) else (f_X8_wordHere_j98 r3 s57_0 σ57_)
def f_X8_wordHere_j56 (r3 : Int32) (σ56_ : ss_M) : Option (Int32 × ss_M) :=
  f_X8_wordHere_j57 r3 (0 : Int32) σ56_
def f_X8_wordHere (σ : ss_M) : Option (Int32 × ss_M) :=
  ss_bd (f_X8_wordSize σ) (fun r1 σ1 => if r1 = (4 : Int32) then (ss_bd (f_X8_letter (0 : Int32) σ1) (fun r3 σ3 => if r3 = (112 : Int32) then (ss_bd (f_X8_letter (1 : Int32) σ3) (fun r22 σ22 => if r22 = (97 : Int32) then (ss_bd (f_X8_letter (2 : Int32) σ22) (fun r24 σ24 => if r24 = (103 : Int32) then (ss_bd (f_X8_letter (3 : Int32) σ24) (fun r26 σ26 => if r26 = (101 : Int32) then (f_X8_wordHere_j57 r3 (1 : Int32) σ26) else (f_X8_wordHere_j56 r3 σ26))) else (f_X8_wordHere_j56 r3 σ24))) else (f_X8_wordHere_j56 r3 σ22))) else (f_X8_wordHere_j56 r3 σ3))) else (some ((-1 : Int32), σ1)))
def rm_X8_wordHere : Room := { frames := 6, cells := 0, slots := 0, locals := 300 }
theorem hd_X8_wordHere : yX8_wordHere.cls = RX8 ∧ yX8_wordHere.cls ≠ "java/lang/invoke/MethodHandle" ∧ yX8_wordHere.cls ≠ "java/lang/invoke/VarHandle" ∧ (parseMethodDescriptor yX8_wordHere.desc).map (fun d => d.parameters.length) = some 0 := by decide +kernel
set_option maxHeartbeats 4000000 in
set_option maxRecDepth 100000 in
theorem c_X8_wordHere (l : Launch) {D : va_G} {Y : Nat → ClassId} {A : ss_A} (hAD : AD 1 A)   {r : Int32} {σ σ' : ss_M} (hf : f_X8_wordHere σ = some (r, σ')) : Met l yX8_wordHere wsX8_wordHere rm_X8_wordHere (Pc0 1 D Y A σ [.ref (A 0 7 0)]) (Qi0 1 D Y A r σ') 0 0 (FA 1 A) := by
  rw [f_X8_wordHere] at hf
  refine Met0 (cc := cX8_wordHere) (maxL := 5) (ret := (some .int)) (own := RX8) (by decide +kernel) rfl hAD rfl (Nat.le_of_ble_eq_true rfl) ?_
  intro p e s m args below meth c S hr hlocks hW ls hl
  obtain ⟨hx, hb, hml, hown, hts⟩ := id S
  have hl : lv_has ls 5 [(0, .ref (A 0 7 0))] := hl
  refine lv_aload_n hx hb dX8_wordHere_0 rfl (lv_at hl 0 rfl) ?_
  obtain ⟨r1, σ1, hf1, hf⟩ := ss_bd_some hf
  refine rv_i S (c_X8_wordSize l hAD  hf1) (cwV 0 hts gX8_wordHere_X8_wordSize rfl rfl rfl hd_X8_wordSize ⟨(Nat.le_of_ble_eq_true rfl), (Nat.le_of_ble_eq_true rfl)⟩) hW (kS_in (by decide)) rfl rfl rfl hl.1 (Nat.le_of_ble_eq_true rfl) ⟨Nat.zero_le _, Nat.zero_le _⟩ dX8_wordHere_1 (fun H locs hW => ?_)
  refine lv_iconst (v := (4 : Int32)) hx hb dX8_wordHere_4 (by decide) ?_
  refine lv_icmp_eq (tgt := 10) hx hb dX8_wordHere_5 (by decide) (fun q2 => ?_) (fun q2 => ?_)
  · rw [if_pos q2] at hf
    refine lv_aload_n hx hb dX8_wordHere_10 rfl (lv_at hl 0 rfl) ?_
    refine lv_iconst (v := (0 : Int32)) hx hb dX8_wordHere_11 (by decide) ?_
    obtain ⟨r3, σ3, hf3, hf⟩ := ss_bd_some hf
    refine rv_i S (c_X8_letter l hAD  hf3) (cwV 1 hts gX8_wordHere_X8_letter rfl rfl rfl hd_X8_letter ⟨(Nat.le_of_ble_eq_true rfl), (Nat.le_of_ble_eq_true rfl)⟩) hW (kS_in (by decide)) rfl rfl rfl hl.1 (Nat.le_of_ble_eq_true rfl) ⟨Nat.zero_le _, Nat.zero_le _⟩ dX8_wordHere_12 (fun H locs hW => ?_)
    refine lv_istore_n (lv' := [(1, .int r3), (0, .ref (A 0 7 0))]) hx hb dX8_wordHere_15 rfl hl (by decide) rfl (fun ls hl => ?_)
    refine lv_iload_n hx hb dX8_wordHere_16 rfl (lv_at hl 0 rfl) ?_
    refine lv_bipush (v := (112 : Int32)) hx hb dX8_wordHere_17 (by decide) ?_
    have J57 : ∀ (s57_0 : Int32) (σ57_ : ss_M) (H : Heap) (locs : List Loc) (ls : Array Slot), sW 1 D Y A σ57_ s s.heap H locs → lv_has ls 5 [(0, .ref (A 0 7 0)), (1, .int r3)] → f_X8_wordHere_j57 r3 s57_0 σ57_ = some (r, σ') → W p l e rm_X8_wordHere s m args below meth c H locs 0 0 (MQ below (Qi0 1 D Y A r σ') args s 0 0 (FA 1 A)) (F0 m 57 ls [.int s57_0]) := by
      intro s57_0 σ57_ H locs ls hW hl hf
      rw [f_X8_wordHere_j57] at hf
      refine lv_istore_n (lv' := [(2, .int s57_0), (0, .ref (A 0 7 0)), (1, .int r3)]) hx hb dX8_wordHere_57 rfl hl (by decide) rfl (fun ls hl => ?_)
      refine lv_iload_n hx hb dX8_wordHere_58 rfl (lv_at hl 2 rfl) ?_
      refine lv_bipush (v := (119 : Int32)) hx hb dX8_wordHere_59 (by decide) ?_
      have J99 : ∀ (s99_0 : Int32) (σ99_ : ss_M) (H : Heap) (locs : List Loc) (ls : Array Slot), sW 1 D Y A σ99_ s s.heap H locs → lv_has ls 5 [(0, .ref (A 0 7 0)), (1, .int r3), (2, .int s57_0)] → f_X8_wordHere_j99 r3 s57_0 s99_0 σ99_ = some (r, σ') → W p l e rm_X8_wordHere s m args below meth c H locs 0 0 (MQ below (Qi0 1 D Y A r σ') args s 0 0 (FA 1 A)) (F0 m 99 ls [.int s99_0]) := by
        intro s99_0 σ99_ H locs ls hW hl hf
        rw [f_X8_wordHere_j99] at hf
        refine lv_istore_n (lv' := [(3, .int s99_0), (0, .ref (A 0 7 0)), (1, .int r3), (2, .int s57_0)]) hx hb dX8_wordHere_99 rfl hl (by decide) rfl (fun ls hl => ?_)
        refine lv_iload_n hx hb dX8_wordHere_100 rfl (lv_at hl 2 rfl) ?_
        refine lv_bipush (v := (109 : Int32)) hx hb dX8_wordHere_101 (by decide) ?_
        have J141 : ∀ (s141_0 : Int32) (σ141_ : ss_M) (H : Heap) (locs : List Loc) (ls : Array Slot), sW 1 D Y A σ141_ s s.heap H locs → lv_has ls 5 [(2, .int s57_0), (3, .int s99_0)] → f_X8_wordHere_j141 s57_0 s99_0 s141_0 σ141_ = some (r, σ') → W p l e rm_X8_wordHere s m args below meth c H locs 0 0 (MQ below (Qi0 1 D Y A r σ') args s 0 0 (FA 1 A)) (F0 m 141 ls [.int s141_0]) := by
          intro s141_0 σ141_ H locs ls hW hl hf
          rw [f_X8_wordHere_j141] at hf
          refine lv_istore (lv' := [(4, .int s141_0), (2, .int s57_0), (3, .int s99_0)]) hx hb dX8_wordHere_141 hl (by decide) rfl (fun ls hl => ?_)
          refine lv_iload_n hx hb dX8_wordHere_143 rfl (lv_at hl 1 rfl) ?_
          refine lv_if_eq (tgt := 151) hx hb dX8_wordHere_144 (by decide) (fun q4 => ?_) (fun q4 => ?_)
          · rw [if_pos q4] at hf
            refine lv_iload_n hx hb dX8_wordHere_151 rfl (lv_at hl 2 rfl) ?_
            refine lv_if_eq (tgt := 159) hx hb dX8_wordHere_152 (by decide) (fun q5 => ?_) (fun q5 => ?_)
            · rw [if_pos q5] at hf
              refine lv_iload hx hb dX8_wordHere_159 (lv_at hl 0 rfl) ?_
              refine lv_if_eq (tgt := 168) hx hb dX8_wordHere_161 (by decide) (fun q6 => ?_) (fun q6 => ?_)
              · rw [if_pos q6] at hf
                refine lv_iconst (v := (-1 : Int32)) hx hb dX8_wordHere_168 (by decide) ?_
                exact re_i hx hb hr hlocks hW (Option.some.inj hf) dX8_wordHere_169
              · rw [if_neg q6] at hf
                refine lv_iconst (v := (2 : Int32)) hx hb dX8_wordHere_164 (by decide) ?_
                refine lv_goto (tgt := 169) hx hb dX8_wordHere_165 (by decide) ?_
                exact re_i hx hb hr hlocks hW (Option.some.inj hf) dX8_wordHere_169
            · rw [if_neg q5] at hf
              refine lv_iconst (v := (1 : Int32)) hx hb dX8_wordHere_155 (by decide) ?_
              refine lv_goto (tgt := 169) hx hb dX8_wordHere_156 (by decide) ?_
              exact re_i hx hb hr hlocks hW (Option.some.inj hf) dX8_wordHere_169
          · rw [if_neg q4] at hf
            refine lv_iconst (v := (0 : Int32)) hx hb dX8_wordHere_147 (by decide) ?_
            refine lv_goto (tgt := 169) hx hb dX8_wordHere_148 (by decide) ?_
            exact re_i hx hb hr hlocks hW (Option.some.inj hf) dX8_wordHere_169
        have J140 : ∀ (σ140_ : ss_M) (H : Heap) (locs : List Loc) (ls : Array Slot), sW 1 D Y A σ140_ s s.heap H locs → lv_has ls 5 [(2, .int s57_0), (3, .int s99_0)] → f_X8_wordHere_j140 s57_0 s99_0 σ140_ = some (r, σ') → W p l e rm_X8_wordHere s m args below meth c H locs 0 0 (MQ below (Qi0 1 D Y A r σ') args s 0 0 (FA 1 A)) (F0 m 140 ls []) := by
          intro σ140_ H locs ls hW hl hf
          rw [f_X8_wordHere_j140] at hf
          refine lv_iconst (v := (0 : Int32)) hx hb dX8_wordHere_140 (by decide) ?_
          exact J141 (0 : Int32) σ140_ _ _ _ hW (lv_sub hl [0, 1] rfl) hf
        refine lv_icmp_ne (tgt := 140) hx hb dX8_wordHere_103 (by decide) (fun q7 => ?_) (fun q7 => ?_)
        · rw [if_neg q7] at hf
          exact J140 σ99_ _ _ _ hW (lv_sub hl [3, 0] rfl) hf
        · rw [if_pos q7] at hf
          refine lv_aload_n hx hb dX8_wordHere_106 rfl (lv_at hl 1 rfl) ?_
          refine lv_iconst (v := (1 : Int32)) hx hb dX8_wordHere_107 (by decide) ?_
          obtain ⟨r8, σ8, hf8, hf⟩ := ss_bd_some hf
          refine rv_i S (c_X8_letter l hAD  hf8) (cwV 1 hts gX8_wordHere_X8_letter rfl rfl rfl hd_X8_letter ⟨(Nat.le_of_ble_eq_true rfl), (Nat.le_of_ble_eq_true rfl)⟩) hW (kS_in (by decide)) rfl rfl rfl hl.1 (Nat.le_of_ble_eq_true rfl) ⟨Nat.zero_le _, Nat.zero_le _⟩ dX8_wordHere_108 (fun H locs hW => ?_)
          refine lv_bipush (v := (97 : Int32)) hx hb dX8_wordHere_111 (by decide) ?_
          refine lv_icmp_ne (tgt := 140) hx hb dX8_wordHere_113 (by decide) (fun q9 => ?_) (fun q9 => ?_)
          · rw [if_neg q9] at hf
            exact J140 σ8 _ _ _ hW (lv_sub hl [3, 0] rfl) hf
          · rw [if_pos q9] at hf
            refine lv_aload_n hx hb dX8_wordHere_116 rfl (lv_at hl 1 rfl) ?_
            refine lv_iconst (v := (2 : Int32)) hx hb dX8_wordHere_117 (by decide) ?_
            obtain ⟨r10, σ10, hf10, hf⟩ := ss_bd_some hf
            refine rv_i S (c_X8_letter l hAD  hf10) (cwV 1 hts gX8_wordHere_X8_letter rfl rfl rfl hd_X8_letter ⟨(Nat.le_of_ble_eq_true rfl), (Nat.le_of_ble_eq_true rfl)⟩) hW (kS_in (by decide)) rfl rfl rfl hl.1 (Nat.le_of_ble_eq_true rfl) ⟨Nat.zero_le _, Nat.zero_le _⟩ dX8_wordHere_118 (fun H locs hW => ?_)
            refine lv_bipush (v := (114 : Int32)) hx hb dX8_wordHere_121 (by decide) ?_
            refine lv_icmp_ne (tgt := 140) hx hb dX8_wordHere_123 (by decide) (fun q11 => ?_) (fun q11 => ?_)
            · rw [if_neg q11] at hf
              exact J140 σ10 _ _ _ hW (lv_sub hl [3, 0] rfl) hf
            · rw [if_pos q11] at hf
              refine lv_aload_n hx hb dX8_wordHere_126 rfl (lv_at hl 1 rfl) ?_
              refine lv_iconst (v := (3 : Int32)) hx hb dX8_wordHere_127 (by decide) ?_
              obtain ⟨r12, σ12, hf12, hf⟩ := ss_bd_some hf
              refine rv_i S (c_X8_letter l hAD  hf12) (cwV 1 hts gX8_wordHere_X8_letter rfl rfl rfl hd_X8_letter ⟨(Nat.le_of_ble_eq_true rfl), (Nat.le_of_ble_eq_true rfl)⟩) hW (kS_in (by decide)) rfl rfl rfl hl.1 (Nat.le_of_ble_eq_true rfl) ⟨Nat.zero_le _, Nat.zero_le _⟩ dX8_wordHere_128 (fun H locs hW => ?_)
              refine lv_bipush (v := (107 : Int32)) hx hb dX8_wordHere_131 (by decide) ?_
              refine lv_icmp_ne (tgt := 140) hx hb dX8_wordHere_133 (by decide) (fun q13 => ?_) (fun q13 => ?_)
              · rw [if_neg q13] at hf
                exact J140 σ12 _ _ _ hW (lv_sub hl [3, 0] rfl) hf
              · rw [if_pos q13] at hf
                refine lv_iconst (v := (1 : Int32)) hx hb dX8_wordHere_136 (by decide) ?_
                refine lv_goto (tgt := 141) hx hb dX8_wordHere_137 (by decide) ?_
                exact J141 (1 : Int32) σ12 _ _ _ hW (lv_sub hl [3, 0] rfl) hf
      have J98 : ∀ (σ98_ : ss_M) (H : Heap) (locs : List Loc) (ls : Array Slot), sW 1 D Y A σ98_ s s.heap H locs → lv_has ls 5 [(0, .ref (A 0 7 0)), (1, .int r3), (2, .int s57_0)] → f_X8_wordHere_j98 r3 s57_0 σ98_ = some (r, σ') → W p l e rm_X8_wordHere s m args below meth c H locs 0 0 (MQ below (Qi0 1 D Y A r σ') args s 0 0 (FA 1 A)) (F0 m 98 ls []) := by
        intro σ98_ H locs ls hW hl hf
        rw [f_X8_wordHere_j98] at hf
        refine lv_iconst (v := (0 : Int32)) hx hb dX8_wordHere_98 (by decide) ?_
        exact J99 (0 : Int32) σ98_ _ _ _ hW (lv_sub hl [0, 1, 2] rfl) hf
      refine lv_icmp_ne (tgt := 98) hx hb dX8_wordHere_61 (by decide) (fun q14 => ?_) (fun q14 => ?_)
      · rw [if_neg q14] at hf
        exact J98 σ57_ _ _ _ hW (lv_sub hl [1, 2, 0] rfl) hf
      · rw [if_pos q14] at hf
        refine lv_aload_n hx hb dX8_wordHere_64 rfl (lv_at hl 1 rfl) ?_
        refine lv_iconst (v := (1 : Int32)) hx hb dX8_wordHere_65 (by decide) ?_
        obtain ⟨r15, σ15, hf15, hf⟩ := ss_bd_some hf
        refine rv_i S (c_X8_letter l hAD  hf15) (cwV 1 hts gX8_wordHere_X8_letter rfl rfl rfl hd_X8_letter ⟨(Nat.le_of_ble_eq_true rfl), (Nat.le_of_ble_eq_true rfl)⟩) hW (kS_in (by decide)) rfl rfl rfl hl.1 (Nat.le_of_ble_eq_true rfl) ⟨Nat.zero_le _, Nat.zero_le _⟩ dX8_wordHere_66 (fun H locs hW => ?_)
        refine lv_bipush (v := (111 : Int32)) hx hb dX8_wordHere_69 (by decide) ?_
        refine lv_icmp_ne (tgt := 98) hx hb dX8_wordHere_71 (by decide) (fun q16 => ?_) (fun q16 => ?_)
        · rw [if_neg q16] at hf
          exact J98 σ15 _ _ _ hW (lv_sub hl [1, 2, 0] rfl) hf
        · rw [if_pos q16] at hf
          refine lv_aload_n hx hb dX8_wordHere_74 rfl (lv_at hl 1 rfl) ?_
          refine lv_iconst (v := (2 : Int32)) hx hb dX8_wordHere_75 (by decide) ?_
          obtain ⟨r17, σ17, hf17, hf⟩ := ss_bd_some hf
          refine rv_i S (c_X8_letter l hAD  hf17) (cwV 1 hts gX8_wordHere_X8_letter rfl rfl rfl hd_X8_letter ⟨(Nat.le_of_ble_eq_true rfl), (Nat.le_of_ble_eq_true rfl)⟩) hW (kS_in (by decide)) rfl rfl rfl hl.1 (Nat.le_of_ble_eq_true rfl) ⟨Nat.zero_le _, Nat.zero_le _⟩ dX8_wordHere_76 (fun H locs hW => ?_)
          refine lv_bipush (v := (114 : Int32)) hx hb dX8_wordHere_79 (by decide) ?_
          refine lv_icmp_ne (tgt := 98) hx hb dX8_wordHere_81 (by decide) (fun q18 => ?_) (fun q18 => ?_)
          · rw [if_neg q18] at hf
            exact J98 σ17 _ _ _ hW (lv_sub hl [1, 2, 0] rfl) hf
          · rw [if_pos q18] at hf
            refine lv_aload_n hx hb dX8_wordHere_84 rfl (lv_at hl 1 rfl) ?_
            refine lv_iconst (v := (3 : Int32)) hx hb dX8_wordHere_85 (by decide) ?_
            obtain ⟨r19, σ19, hf19, hf⟩ := ss_bd_some hf
            refine rv_i S (c_X8_letter l hAD  hf19) (cwV 1 hts gX8_wordHere_X8_letter rfl rfl rfl hd_X8_letter ⟨(Nat.le_of_ble_eq_true rfl), (Nat.le_of_ble_eq_true rfl)⟩) hW (kS_in (by decide)) rfl rfl rfl hl.1 (Nat.le_of_ble_eq_true rfl) ⟨Nat.zero_le _, Nat.zero_le _⟩ dX8_wordHere_86 (fun H locs hW => ?_)
            refine lv_bipush (v := (100 : Int32)) hx hb dX8_wordHere_89 (by decide) ?_
            refine lv_icmp_ne (tgt := 98) hx hb dX8_wordHere_91 (by decide) (fun q20 => ?_) (fun q20 => ?_)
            · rw [if_neg q20] at hf
              exact J98 σ19 _ _ _ hW (lv_sub hl [1, 2, 0] rfl) hf
            · rw [if_pos q20] at hf
              refine lv_iconst (v := (1 : Int32)) hx hb dX8_wordHere_94 (by decide) ?_
              refine lv_goto (tgt := 99) hx hb dX8_wordHere_95 (by decide) ?_
              exact J99 (1 : Int32) σ19 _ _ _ hW (lv_sub hl [1, 2, 0] rfl) hf
    have J56 : ∀ (σ56_ : ss_M) (H : Heap) (locs : List Loc) (ls : Array Slot), sW 1 D Y A σ56_ s s.heap H locs → lv_has ls 5 [(0, .ref (A 0 7 0)), (1, .int r3)] → f_X8_wordHere_j56 r3 σ56_ = some (r, σ') → W p l e rm_X8_wordHere s m args below meth c H locs 0 0 (MQ below (Qi0 1 D Y A r σ') args s 0 0 (FA 1 A)) (F0 m 56 ls []) := by
      intro σ56_ H locs ls hW hl hf
      rw [f_X8_wordHere_j56] at hf
      refine lv_iconst (v := (0 : Int32)) hx hb dX8_wordHere_56 (by decide) ?_
      exact J57 (0 : Int32) σ56_ _ _ _ hW (lv_sub hl [0, 1] rfl) hf
    refine lv_icmp_ne (tgt := 56) hx hb dX8_wordHere_19 (by decide) (fun q21 => ?_) (fun q21 => ?_)
    · rw [if_neg q21] at hf
      exact J56 σ3 _ _ _ hW (lv_sub hl [1, 0] rfl) hf
    · rw [if_pos q21] at hf
      refine lv_aload_n hx hb dX8_wordHere_22 rfl (lv_at hl 1 rfl) ?_
      refine lv_iconst (v := (1 : Int32)) hx hb dX8_wordHere_23 (by decide) ?_
      obtain ⟨r22, σ22, hf22, hf⟩ := ss_bd_some hf
      refine rv_i S (c_X8_letter l hAD  hf22) (cwV 1 hts gX8_wordHere_X8_letter rfl rfl rfl hd_X8_letter ⟨(Nat.le_of_ble_eq_true rfl), (Nat.le_of_ble_eq_true rfl)⟩) hW (kS_in (by decide)) rfl rfl rfl hl.1 (Nat.le_of_ble_eq_true rfl) ⟨Nat.zero_le _, Nat.zero_le _⟩ dX8_wordHere_24 (fun H locs hW => ?_)
      refine lv_bipush (v := (97 : Int32)) hx hb dX8_wordHere_27 (by decide) ?_
      refine lv_icmp_ne (tgt := 56) hx hb dX8_wordHere_29 (by decide) (fun q23 => ?_) (fun q23 => ?_)
      · rw [if_neg q23] at hf
        exact J56 σ22 _ _ _ hW (lv_sub hl [1, 0] rfl) hf
      · rw [if_pos q23] at hf
        refine lv_aload_n hx hb dX8_wordHere_32 rfl (lv_at hl 1 rfl) ?_
        refine lv_iconst (v := (2 : Int32)) hx hb dX8_wordHere_33 (by decide) ?_
        obtain ⟨r24, σ24, hf24, hf⟩ := ss_bd_some hf
        refine rv_i S (c_X8_letter l hAD  hf24) (cwV 1 hts gX8_wordHere_X8_letter rfl rfl rfl hd_X8_letter ⟨(Nat.le_of_ble_eq_true rfl), (Nat.le_of_ble_eq_true rfl)⟩) hW (kS_in (by decide)) rfl rfl rfl hl.1 (Nat.le_of_ble_eq_true rfl) ⟨Nat.zero_le _, Nat.zero_le _⟩ dX8_wordHere_34 (fun H locs hW => ?_)
        refine lv_bipush (v := (103 : Int32)) hx hb dX8_wordHere_37 (by decide) ?_
        refine lv_icmp_ne (tgt := 56) hx hb dX8_wordHere_39 (by decide) (fun q25 => ?_) (fun q25 => ?_)
        · rw [if_neg q25] at hf
          exact J56 σ24 _ _ _ hW (lv_sub hl [1, 0] rfl) hf
        · rw [if_pos q25] at hf
          refine lv_aload_n hx hb dX8_wordHere_42 rfl (lv_at hl 1 rfl) ?_
          refine lv_iconst (v := (3 : Int32)) hx hb dX8_wordHere_43 (by decide) ?_
          obtain ⟨r26, σ26, hf26, hf⟩ := ss_bd_some hf
          refine rv_i S (c_X8_letter l hAD  hf26) (cwV 1 hts gX8_wordHere_X8_letter rfl rfl rfl hd_X8_letter ⟨(Nat.le_of_ble_eq_true rfl), (Nat.le_of_ble_eq_true rfl)⟩) hW (kS_in (by decide)) rfl rfl rfl hl.1 (Nat.le_of_ble_eq_true rfl) ⟨Nat.zero_le _, Nat.zero_le _⟩ dX8_wordHere_44 (fun H locs hW => ?_)
          refine lv_bipush (v := (101 : Int32)) hx hb dX8_wordHere_47 (by decide) ?_
          refine lv_icmp_ne (tgt := 56) hx hb dX8_wordHere_49 (by decide) (fun q27 => ?_) (fun q27 => ?_)
          · rw [if_neg q27] at hf
            exact J56 σ26 _ _ _ hW (lv_sub hl [1, 0] rfl) hf
          · rw [if_pos q27] at hf
            refine lv_iconst (v := (1 : Int32)) hx hb dX8_wordHere_52 (by decide) ?_
            refine lv_goto (tgt := 57) hx hb dX8_wordHere_53 (by decide) ?_
            exact J57 (1 : Int32) σ26 _ _ _ hW (lv_sub hl [1, 0] rfl) hf
  · rw [if_neg q2] at hf
    refine lv_iconst (v := (-1 : Int32)) hx hb dX8_wordHere_8 (by decide) ?_
    exact re_i hx hb hr hlocks hW (Option.some.inj hf) dX8_wordHere_9
def f_X8_number_j73 (x73_1 : Int32) (x73_2 : Int32) (σ73_ : ss_M) : Option (Int32 × ss_M) :=
  ss_bd (f_X8_in x73_1 (1 : Int32) (2 : Int32) σ73_) (fun r2 σ2 => if r2 = (0 : Int32) then (some ((0 : Int32), σ2)) else (some ((1 : Int32), (sGu (sGu σ2 25 0 x73_2) 24 0 ((sG (sGu σ2 25 0 x73_2) 24 0) + x73_1)))))
def f_X8_number_j66 (x8_1 : Int32) (kb8 : Int32 → Int32 → ss_M → Option (Int32 × ss_M)) (s66_0 : Int32) (σ66_ : ss_M) : Option (Int32 × ss_M) :=
  kb8 (x8_1 + (1 : Int32)) s66_0 σ66_
def f_X8_number_L8 (k8_73 : Int32 → Int32 → ss_M → Option (Int32 × ss_M)) : Nat → Int32 → Int32 → ss_M → Option (Int32 × ss_M)
  | 0, _, _, _ => none
  | n8 + 1, x8_1, x8_2, σ8_ => if (sG σ8_ 23 0) ≤ ((sG σ8_ 24 0) + x8_1) then (k8_73 x8_1 x8_2 σ8_) else (if gd ((sG σ8_ 24 0) + x8_1) 150 = true then (ss_bd (f_X8_isFigure (sA σ8_ 21 0 (((sG σ8_ 24 0) + x8_1)).toNatClampNeg) σ8_) (fun r6 σ6 => if r6 = (0 : Int32) then (k8_73 x8_1 x8_2 σ6) else (if (2 : Int32) ≤ x8_1 then (f_X8_number_j66 x8_1 (f_X8_number_L8 k8_73 n8) x8_2 σ6) else (if gd ((sG σ6 24 0) + x8_1) 150 = true then (f_X8_number_j66 x8_1 (f_X8_number_L8 k8_73 n8) ((((10 : Int32) * x8_2) + (sA σ6 21 0 (((sG σ6 24 0) + x8_1)).toNatClampNeg)) - (48 : Int32)) σ6) else none)))) else none)
def f_X8_number (σ : ss_M) : Option (Int32 × ss_M) :=
  Option.bind (f_X8_skip σ) (fun σ1 => f_X8_number_L8 (f_X8_number_j73) FU (0 : Int32) (0 : Int32) σ1)
def rm_X8_number : Room := { frames := 4, cells := 0, slots := 0, locals := 200 }
theorem hd_X8_number : yX8_number.cls = RX8 ∧ yX8_number.cls ≠ "java/lang/invoke/MethodHandle" ∧ yX8_number.cls ≠ "java/lang/invoke/VarHandle" ∧ (parseMethodDescriptor yX8_number.desc).map (fun d => d.parameters.length) = some 0 := by decide +kernel
set_option maxHeartbeats 4000000 in
set_option maxRecDepth 100000 in
theorem c_X8_number (l : Launch) {D : va_G} {Y : Nat → ClassId} {A : ss_A} (hAD : AD 1 A)   {r : Int32} {σ σ' : ss_M} (hf : f_X8_number σ = some (r, σ')) : Met l yX8_number wsX8_number rm_X8_number (Pc0 1 D Y A σ [.ref (A 0 7 0)]) (Qi0 1 D Y A r σ') 0 0 (FA 1 A) := by
  rw [f_X8_number] at hf
  refine Met0 (cc := cX8_number) (maxL := 3) (ret := (some .boolean)) (own := RX8) (by decide +kernel) rfl hAD rfl (Nat.le_of_ble_eq_true rfl) ?_
  intro p e s m args below meth c S hr hlocks hW ls hl
  obtain ⟨hx, hb, hml, hown, hts⟩ := id S
  have iX8 : ∀ q ∈ wsX80, q ∈ wsX8_number := fun q h => List.mem_cons_of_mem _ (List.mem_append_right _ (h))
  have hl : lv_has ls 3 [(0, .ref (A 0 7 0))] := hl
  refine lv_aload_n hx hb dX8_number_0 rfl (lv_at hl 0 rfl) ?_
  obtain ⟨σ1, hf1, hf⟩ := ss_bind hf
  refine rv_v S (c_X8_skip l hAD  hf1) (cwV 0 hts gX8_number_X8_skip rfl rfl rfl hd_X8_skip ⟨(Nat.le_of_ble_eq_true rfl), (Nat.le_of_ble_eq_true rfl)⟩) hW (kS_in (by decide)) rfl rfl rfl hl.1 (Nat.le_of_ble_eq_true rfl) ⟨Nat.zero_le _, Nat.zero_le _⟩ dX8_number_1 (fun H locs hW => ?_)
  refine lv_iconst (v := (0 : Int32)) hx hb dX8_number_4 (by decide) ?_
  refine lv_istore_n (lv' := [(1, .int (0 : Int32)), (0, .ref (A 0 7 0))]) hx hb dX8_number_5 rfl hl (by decide) rfl (fun ls hl => ?_)
  refine lv_iconst (v := (0 : Int32)) hx hb dX8_number_6 (by decide) ?_
  refine lv_istore_n (lv' := [(2, .int (0 : Int32)), (1, .int (0 : Int32)), (0, .ref (A 0 7 0))]) hx hb dX8_number_7 rfl hl (by decide) rfl (fun ls hl => ?_)
  have J73 : ∀ (x73_1 : Int32) (x73_2 : Int32) (σ73_ : ss_M) (H : Heap) (locs : List Loc) (ls : Array Slot), sW 1 D Y A σ73_ s s.heap H locs → lv_has ls 3 [(0, .ref (A 0 7 0)), (1, .int x73_1), (2, .int x73_2)] → f_X8_number_j73 x73_1 x73_2 σ73_ = some (r, σ') → W p l e rm_X8_number s m args below meth c H locs 0 0 (MQ below (Qi0 1 D Y A r σ') args s 0 0 (FA 1 A)) (F0 m 73 ls []) := by
    intro x73_1 x73_2 σ73_ H locs ls hW hl hf
    rw [f_X8_number_j73] at hf
    refine lv_iload_n hx hb dX8_number_73 rfl (lv_at hl 1 rfl) ?_
    refine lv_iconst (v := (1 : Int32)) hx hb dX8_number_74 (by decide) ?_
    refine lv_iconst (v := (2 : Int32)) hx hb dX8_number_75 (by decide) ?_
    obtain ⟨r2, σ2, hf2, hf⟩ := ss_bd_some hf
    refine rt_i S (c_X8_in l hAD  hf2) (va_cwS 3 hts gX8_number_X8_in rfl rfl rfl hd_X8_in ⟨(Nat.le_of_ble_eq_true rfl), (Nat.le_of_ble_eq_true rfl)⟩) hW rfl rfl hl.1 (Nat.le_of_ble_eq_true rfl) ⟨Nat.zero_le _, Nat.zero_le _⟩ dX8_number_76 (fun H locs hW => ?_)
    refine lv_if_ne (tgt := 84) hx hb dX8_number_79 (by decide) (fun q3 => ?_) (fun q3 => ?_)
    · rw [if_neg q3] at hf
      refine lv_aload_n hx hb dX8_number_84 rfl (lv_at hl 0 rfl) ?_
      refine lv_iload_n hx hb dX8_number_85 rfl (lv_at hl 2 rfl) ?_
      refine pf_X8_readNumber hx hb hts hown hW (kS_in (by decide)) iX8 (List.mem_of_getElem? (i := 4) rfl) dX8_number_86 (fun H locs hW => ?_)
      refine lv_aload_n hx hb dX8_number_89 rfl (lv_at hl 0 rfl) ?_
      refine lv_dup hx hb dX8_number_90 rfl ?_
      refine gf_X8_readAt hx hb hts hown hW (kS_in (by decide)) iX8 (List.mem_of_getElem? (i := 1) rfl) dX8_number_91 ?_
      refine lv_iload_n hx hb dX8_number_94 rfl (lv_at hl 1 rfl) ?_
      refine lv_iadd hx hb dX8_number_95 ?_
      refine pf_X8_readAt hx hb hts hown hW (kS_in (by decide)) iX8 (List.mem_of_getElem? (i := 1) rfl) dX8_number_96 (fun H locs hW => ?_)
      refine lv_iconst (v := (1 : Int32)) hx hb dX8_number_99 (by decide) ?_
      exact re_z hx hb hr hlocks hW (by decide) (Option.some.inj hf) dX8_number_100
    · rw [if_pos q3] at hf
      refine lv_iconst (v := (0 : Int32)) hx hb dX8_number_82 (by decide) ?_
      exact re_z hx hb hr hlocks hW (by decide) (Option.some.inj hf) dX8_number_83
  have L8 : ∀ (n8 : Nat), ∀ (x8_1 : Int32) (x8_2 : Int32) (σ8_ : ss_M) (H : Heap) (locs : List Loc) (ls : Array Slot), sW 1 D Y A σ8_ s s.heap H locs → lv_has ls 3 [(0, .ref (A 0 7 0)), (1, .int x8_1), (2, .int x8_2)] → f_X8_number_L8 (f_X8_number_j73) n8 x8_1 x8_2 σ8_ = some (r, σ') → W p l e rm_X8_number s m args below meth c H locs 0 0 (MQ below (Qi0 1 D Y A r σ') args s 0 0 (FA 1 A)) (F0 m 8 ls []) := by
    intro n8
    induction n8 with
    | zero =>
      intro x8_1 x8_2 σ8_ H locs ls hW hl hf
      rw [f_X8_number_L8] at hf
      cases hf
    | succ n8 ih8 =>
      intro x8_1 x8_2 σ8_ H locs ls hW hl hf
      rw [f_X8_number_L8] at hf
      refine lv_aload_n hx hb dX8_number_8 rfl (lv_at hl 0 rfl) ?_
      refine gf_X8_readAt hx hb hts hown hW (kS_in (by decide)) iX8 (List.mem_of_getElem? (i := 1) rfl) dX8_number_9 ?_
      refine lv_iload_n hx hb dX8_number_12 rfl (lv_at hl 1 rfl) ?_
      refine lv_iadd hx hb dX8_number_13 ?_
      refine lv_aload_n hx hb dX8_number_14 rfl (lv_at hl 0 rfl) ?_
      refine gf_X8_typed hx hb hts hown hW (kS_in (by decide)) iX8 (List.mem_of_getElem? (i := 2) rfl) dX8_number_15 ?_
      refine lv_icmp_ge (tgt := 73) hx hb dX8_number_18 (by decide) (fun q4 => ?_) (fun q4 => ?_)
      · rw [if_pos q4] at hf
        exact J73 x8_1 x8_2 σ8_ _ _ _ hW (lv_sub hl [0, 1, 2] rfl) hf
      · rw [if_neg q4] at hf
        refine lv_aload_n hx hb dX8_number_21 rfl (lv_at hl 0 rfl) ?_
        refine gf_X8_text hx hb hts hown hW (kS_in (by decide)) iX8 (List.mem_of_getElem? (i := 3) rfl) dX8_number_22 ?_
        refine lv_aload_n hx hb dX8_number_25 rfl (lv_at hl 0 rfl) ?_
        refine gf_X8_readAt hx hb hts hown hW (kS_in (by decide)) iX8 (List.mem_of_getElem? (i := 1) rfl) dX8_number_26 ?_
        refine lv_iload_n hx hb dX8_number_29 rfl (lv_at hl 1 rfl) ?_
        refine lv_iadd hx hb dX8_number_30 ?_
        obtain ⟨g5, hf⟩ := ss_if hf
        refine ra_i hx hb hW (kS_in (by decide)) g5 dX8_number_31 ?_
        obtain ⟨r6, σ6, hf6, hf⟩ := ss_bd_some hf
        refine rt_i S (c_X8_isFigure l hAD  hf6) (va_cwS 1 hts gX8_number_X8_isFigure rfl rfl rfl hd_X8_isFigure ⟨(Nat.le_of_ble_eq_true rfl), (Nat.le_of_ble_eq_true rfl)⟩) hW rfl rfl hl.1 (Nat.le_of_ble_eq_true rfl) ⟨Nat.zero_le _, Nat.zero_le _⟩ dX8_number_32 (fun H locs hW => ?_)
        refine lv_if_eq (tgt := 73) hx hb dX8_number_35 (by decide) (fun q7 => ?_) (fun q7 => ?_)
        · rw [if_pos q7] at hf
          exact J73 x8_1 x8_2 σ6 _ _ _ hW (lv_sub hl [0, 1, 2] rfl) hf
        · rw [if_neg q7] at hf
          refine lv_iload_n hx hb dX8_number_38 rfl (lv_at hl 1 rfl) ?_
          refine lv_iconst (v := (2 : Int32)) hx hb dX8_number_39 (by decide) ?_
          have J66 : ∀ (s66_0 : Int32) (σ66_ : ss_M) (H : Heap) (locs : List Loc) (ls : Array Slot), sW 1 D Y A σ66_ s s.heap H locs → lv_has ls 3 [(0, .ref (A 0 7 0)), (1, .int x8_1)] → f_X8_number_j66 x8_1 (f_X8_number_L8 (f_X8_number_j73) n8) s66_0 σ66_ = some (r, σ') → W p l e rm_X8_number s m args below meth c H locs 0 0 (MQ below (Qi0 1 D Y A r σ') args s 0 0 (FA 1 A)) (F0 m 66 ls [.int s66_0]) := by
            intro s66_0 σ66_ H locs ls hW hl hf
            rw [f_X8_number_j66] at hf
            refine lv_istore_n (lv' := [(2, .int s66_0), (0, .ref (A 0 7 0)), (1, .int x8_1)]) hx hb dX8_number_66 rfl hl (by decide) rfl (fun ls hl => ?_)
            refine lv_iinc (v := (x8_1 + (1 : Int32))) (lv' := [(1, .int (x8_1 + (1 : Int32))), (2, .int s66_0), (0, .ref (A 0 7 0))]) hx hb dX8_number_67 hl (k := 2) rfl rfl (by decide) rfl (fun ls hl => ?_)
            refine lv_goto (tgt := 8) hx hb dX8_number_70 (by decide) ?_
            exact ih8 (x8_1 + (1 : Int32)) s66_0 σ66_ _ _ _ hW (lv_sub hl [2, 0, 1] rfl) hf
          refine lv_icmp_ge (tgt := 65) hx hb dX8_number_40 (by decide) (fun q8 => ?_) (fun q8 => ?_)
          · rw [if_pos q8] at hf
            refine lv_iload_n hx hb dX8_number_65 rfl (lv_at hl 2 rfl) ?_
            exact J66 x8_2 σ6 _ _ _ hW (lv_sub hl [0, 1] rfl) hf
          · rw [if_neg q8] at hf
            refine lv_bipush (v := (10 : Int32)) hx hb dX8_number_43 (by decide) ?_
            refine lv_iload_n hx hb dX8_number_45 rfl (lv_at hl 2 rfl) ?_
            refine lv_imul hx hb dX8_number_46 ?_
            refine lv_aload_n hx hb dX8_number_47 rfl (lv_at hl 0 rfl) ?_
            refine gf_X8_text hx hb hts hown hW (kS_in (by decide)) iX8 (List.mem_of_getElem? (i := 3) rfl) dX8_number_48 ?_
            refine lv_aload_n hx hb dX8_number_51 rfl (lv_at hl 0 rfl) ?_
            refine gf_X8_readAt hx hb hts hown hW (kS_in (by decide)) iX8 (List.mem_of_getElem? (i := 1) rfl) dX8_number_52 ?_
            refine lv_iload_n hx hb dX8_number_55 rfl (lv_at hl 1 rfl) ?_
            refine lv_iadd hx hb dX8_number_56 ?_
            obtain ⟨g9, hf⟩ := ss_if hf
            refine ra_i hx hb hW (kS_in (by decide)) g9 dX8_number_57 ?_
            refine lv_iadd hx hb dX8_number_58 ?_
            refine lv_bipush (v := (48 : Int32)) hx hb dX8_number_59 (by decide) ?_
            refine lv_isub hx hb dX8_number_61 ?_
            refine lv_goto (tgt := 66) hx hb dX8_number_62 (by decide) ?_
            exact J66 ((((10 : Int32) * x8_2) + (sA σ6 21 0 (((sG σ6 24 0) + x8_1)).toNatClampNeg)) - (48 : Int32)) σ6 _ _ _ hW (lv_sub hl [0, 1] rfl) hf
  exact L8 FU (0 : Int32) (0 : Int32) σ1 _ _ _ hW (lv_sub hl [2, 1, 0] rfl) hf
def f_X8_readsItem_j106 (σ106_ : ss_M) : Option (Int32 × ss_M) :=
  Option.bind (f_X8_skip σ106_) (fun σ6 => ss_bd (f_X8_here σ6) (fun r7 σ7 => if r7 = (59 : Int32) then (some ((1 : Int32), (sGu (sGu σ7 24 0 ((sG σ7 24 0) + (1 : Int32))) 26 0 ((sG (sGu σ7 24 0 ((sG σ7 24 0) + (1 : Int32))) 26 0) + (1 : Int32))))) else (some ((0 : Int32), σ7))))
def f_X8_readsItem_j71 (x60_2 : Int32) (kb60 : Int32 → ss_M → Option (Int32 × ss_M)) (k60_106 : ss_M → Option (Int32 × ss_M)) (s71_0 : Int32) (σ71_ : ss_M) : Option (Int32 × ss_M) :=
  if s71_0 ≤ x60_2 then (k60_106 σ71_) else (ss_bd (f_X8_number σ71_) (fun r10 σ10 => if r10 = (0 : Int32) then (some ((0 : Int32), σ10)) else (if gd (((3 : Int32) * (sG σ10 26 0)) + x60_2) 225 = true then (kb60 (x60_2 + (1 : Int32)) (sAu σ10 22 0 (upd (sA σ10 22 0) ((((3 : Int32) * (sG σ10 26 0)) + x60_2)).toNatClampNeg (sG σ10 25 0)))) else none)))
def f_X8_readsItem_L60 (r1 : Int32) (k60_106 : ss_M → Option (Int32 × ss_M)) : Nat → Int32 → ss_M → Option (Int32 × ss_M)
  | 0, _, _ => none
  | n60 + 1, x60_2, σ60_ => if r1 = (1 : Int32) then (f_X8_readsItem_j71 x60_2 (f_X8_readsItem_L60 r1 k60_106 n60) k60_106 (2 : Int32) σ60_) else (f_X8_readsItem_j71 x60_2 (f_X8_readsItem_L60 r1 k60_106 n60) k60_106 (3 : Int32) σ60_)
def f_X8_readsItem_j31 (r1 : Int32) (s19_0 : Int32) (s31_0 : Int32) (σ31_ : ss_M) : Option (Int32 × ss_M) :=
  if s19_0 = s31_0 then (if gd ((3 : Int32) * (sG (sGu σ31_ 24 0 ((sG σ31_ 24 0) + (4 : Int32))) 26 0)) 225 = true then (ss_let (sAu (sGu σ31_ 24 0 ((sG σ31_ 24 0) + (4 : Int32))) 22 0 (upd (sA (sGu σ31_ 24 0 ((sG σ31_ 24 0) + (4 : Int32))) 22 0) (((3 : Int32) * (sG (sGu σ31_ 24 0 ((sG σ31_ 24 0) + (4 : Int32))) 26 0))).toNatClampNeg r1)) (fun σm5 => f_X8_readsItem_L60 r1 (f_X8_readsItem_j106) FU (1 : Int32) σm5)) else none) else (some ((0 : Int32), σ31_))
def f_X8_readsItem_j19 (r1 : Int32) (s19_0 : Int32) (σ19_ : ss_M) : Option (Int32 × ss_M) :=
  if (sG σ19_ 26 0) = (0 : Int32) then (f_X8_readsItem_j31 r1 s19_0 (1 : Int32) σ19_) else (f_X8_readsItem_j31 r1 s19_0 (0 : Int32) σ19_)
def f_X8_readsItem (σ : ss_M) : Option (Int32 × ss_M) :=
  ss_bd (f_X8_wordHere σ) (fun r1 σ1 => if r1 = (-1 : Int32) then (some ((0 : Int32), σ1)) else (if r1 = (0 : Int32) then (f_X8_readsItem_j19 r1 (1 : Int32) σ1) else (f_X8_readsItem_j19 r1 (0 : Int32) σ1)))
def rm_X8_readsItem : Room := { frames := 8, cells := 0, slots := 0, locals := 400 }
theorem hd_X8_readsItem : yX8_readsItem.cls = RX8 ∧ yX8_readsItem.cls ≠ "java/lang/invoke/MethodHandle" ∧ yX8_readsItem.cls ≠ "java/lang/invoke/VarHandle" ∧ (parseMethodDescriptor yX8_readsItem.desc).map (fun d => d.parameters.length) = some 0 := by decide +kernel
set_option maxHeartbeats 4000000 in
set_option maxRecDepth 100000 in
theorem c_X8_readsItem (l : Launch) {D : va_G} {Y : Nat → ClassId} {A : ss_A} (hAD : AD 1 A)   {r : Int32} {σ σ' : ss_M} (hf : f_X8_readsItem σ = some (r, σ')) : Met l yX8_readsItem wsX8_readsItem rm_X8_readsItem (Pc0 1 D Y A σ [.ref (A 0 7 0)]) (Qi0 1 D Y A r σ') 0 0 (FA 1 A) := by
  rw [f_X8_readsItem] at hf
  refine Met0 (cc := cX8_readsItem) (maxL := 3) (ret := (some .boolean)) (own := RX8) (by decide +kernel) rfl hAD rfl (Nat.le_of_ble_eq_true rfl) ?_
  intro p e s m args below meth c S hr hlocks hW ls hl
  obtain ⟨hx, hb, hml, hown, hts⟩ := id S
  have iX8 : ∀ q ∈ wsX80, q ∈ wsX8_readsItem := fun q h => List.mem_cons_of_mem _ (List.mem_append_right _ (h))
  have hl : lv_has ls 3 [(0, .ref (A 0 7 0))] := hl
  refine lv_aload_n hx hb dX8_readsItem_0 rfl (lv_at hl 0 rfl) ?_
  obtain ⟨r1, σ1, hf1, hf⟩ := ss_bd_some hf
  refine rv_i S (c_X8_wordHere l hAD  hf1) (cwV 0 hts gX8_readsItem_X8_wordHere rfl rfl rfl hd_X8_wordHere ⟨(Nat.le_of_ble_eq_true rfl), (Nat.le_of_ble_eq_true rfl)⟩) hW (kS_in (by decide)) rfl rfl rfl hl.1 (Nat.le_of_ble_eq_true rfl) ⟨Nat.zero_le _, Nat.zero_le _⟩ dX8_readsItem_1 (fun H locs hW => ?_)
  refine lv_istore_n (lv' := [(1, .int r1), (0, .ref (A 0 7 0))]) hx hb dX8_readsItem_4 rfl hl (by decide) rfl (fun ls hl => ?_)
  refine lv_iload_n hx hb dX8_readsItem_5 rfl (lv_at hl 0 rfl) ?_
  refine lv_iconst (v := (-1 : Int32)) hx hb dX8_readsItem_6 (by decide) ?_
  refine lv_icmp_eq (tgt := 34) hx hb dX8_readsItem_7 (by decide) (fun q2 => ?_) (fun q2 => ?_)
  · rw [if_pos q2] at hf
    refine lv_iconst (v := (0 : Int32)) hx hb dX8_readsItem_34 (by decide) ?_
    exact re_z hx hb hr hlocks hW (by decide) (Option.some.inj hf) dX8_readsItem_35
  · rw [if_neg q2] at hf
    refine lv_iload_n hx hb dX8_readsItem_10 rfl (lv_at hl 0 rfl) ?_
    have J19 : ∀ (s19_0 : Int32) (σ19_ : ss_M) (H : Heap) (locs : List Loc) (ls : Array Slot), sW 1 D Y A σ19_ s s.heap H locs → lv_has ls 3 [(0, .ref (A 0 7 0)), (1, .int r1)] → f_X8_readsItem_j19 r1 s19_0 σ19_ = some (r, σ') → W p l e rm_X8_readsItem s m args below meth c H locs 0 0 (MQ below (Qi0 1 D Y A r σ') args s 0 0 (FA 1 A)) (F0 m 19 ls [.int s19_0]) := by
      intro s19_0 σ19_ H locs ls hW hl hf
      rw [f_X8_readsItem_j19] at hf
      refine lv_aload_n hx hb dX8_readsItem_19 rfl (lv_at hl 0 rfl) ?_
      refine gf_X8_itemMany hx hb hts hown hW (kS_in (by decide)) iX8 (List.mem_of_getElem? (i := 1) rfl) dX8_readsItem_20 ?_
      have J31 : ∀ (s31_0 : Int32) (σ31_ : ss_M) (H : Heap) (locs : List Loc) (ls : Array Slot), sW 1 D Y A σ31_ s s.heap H locs → lv_has ls 3 [(0, .ref (A 0 7 0)), (1, .int r1)] → f_X8_readsItem_j31 r1 s19_0 s31_0 σ31_ = some (r, σ') → W p l e rm_X8_readsItem s m args below meth c H locs 0 0 (MQ below (Qi0 1 D Y A r σ') args s 0 0 (FA 1 A)) (F0 m 31 ls [.int s31_0, .int s19_0]) := by
        intro s31_0 σ31_ H locs ls hW hl hf
        rw [f_X8_readsItem_j31] at hf
        refine lv_icmp_eq (tgt := 36) hx hb dX8_readsItem_31 (by decide) (fun q3 => ?_) (fun q3 => ?_)
        · rw [if_pos q3] at hf
          refine lv_aload_n hx hb dX8_readsItem_36 rfl (lv_at hl 0 rfl) ?_
          refine lv_dup hx hb dX8_readsItem_37 rfl ?_
          refine gf_X8_readAt hx hb hts hown hW (kS_in (by decide)) iX8 (List.mem_of_getElem? (i := 2) rfl) dX8_readsItem_38 ?_
          refine lv_iconst (v := (4 : Int32)) hx hb dX8_readsItem_41 (by decide) ?_
          refine lv_iadd hx hb dX8_readsItem_42 ?_
          refine pf_X8_readAt hx hb hts hown hW (kS_in (by decide)) iX8 (List.mem_of_getElem? (i := 2) rfl) dX8_readsItem_43 (fun H locs hW => ?_)
          refine lv_aload_n hx hb dX8_readsItem_46 rfl (lv_at hl 0 rfl) ?_
          refine gf_X8_items hx hb hts hown hW (kS_in (by decide)) iX8 (List.mem_of_getElem? (i := 3) rfl) dX8_readsItem_47 ?_
          refine lv_iconst (v := (3 : Int32)) hx hb dX8_readsItem_50 (by decide) ?_
          refine lv_aload_n hx hb dX8_readsItem_51 rfl (lv_at hl 0 rfl) ?_
          refine gf_X8_itemMany hx hb hts hown hW (kS_in (by decide)) iX8 (List.mem_of_getElem? (i := 1) rfl) dX8_readsItem_52 ?_
          refine lv_imul hx hb dX8_readsItem_55 ?_
          refine lv_iload_n hx hb dX8_readsItem_56 rfl (lv_at hl 1 rfl) ?_
          obtain ⟨g4, hf⟩ := ss_if hf
          refine rs_i hx hb hW (kS_in (by decide)) g4 dX8_readsItem_57 (fun H locs hW => ?_)
          obtain ⟨σm5, eσm5, hf⟩ := ss_let_some hf
          rw [← eσm5] at hW
          refine lv_iconst (v := (1 : Int32)) hx hb dX8_readsItem_58 (by decide) ?_
          refine lv_istore_n (lv' := [(2, .int (1 : Int32)), (0, .ref (A 0 7 0)), (1, .int r1)]) hx hb dX8_readsItem_59 rfl hl (by decide) rfl (fun ls hl => ?_)
          have J106 : ∀ (σ106_ : ss_M) (H : Heap) (locs : List Loc) (ls : Array Slot), sW 1 D Y A σ106_ s s.heap H locs → lv_has ls 3 [(0, .ref (A 0 7 0))] → f_X8_readsItem_j106 σ106_ = some (r, σ') → W p l e rm_X8_readsItem s m args below meth c H locs 0 0 (MQ below (Qi0 1 D Y A r σ') args s 0 0 (FA 1 A)) (F0 m 106 ls []) := by
            intro σ106_ H locs ls hW hl hf
            rw [f_X8_readsItem_j106] at hf
            refine lv_aload_n hx hb dX8_readsItem_106 rfl (lv_at hl 0 rfl) ?_
            obtain ⟨σ6, hf6, hf⟩ := ss_bind hf
            refine rv_v S (c_X8_skip l hAD  hf6) (cwV 0 hts gX8_readsItem_X8_skip rfl rfl rfl hd_X8_skip ⟨(Nat.le_of_ble_eq_true rfl), (Nat.le_of_ble_eq_true rfl)⟩) hW (kS_in (by decide)) rfl rfl rfl hl.1 (Nat.le_of_ble_eq_true rfl) ⟨Nat.zero_le _, Nat.zero_le _⟩ dX8_readsItem_107 (fun H locs hW => ?_)
            refine lv_aload_n hx hb dX8_readsItem_110 rfl (lv_at hl 0 rfl) ?_
            obtain ⟨r7, σ7, hf7, hf⟩ := ss_bd_some hf
            refine rv_i S (c_X8_here l hAD  hf7) (cwV 0 hts gX8_readsItem_X8_here rfl rfl rfl hd_X8_here ⟨(Nat.le_of_ble_eq_true rfl), (Nat.le_of_ble_eq_true rfl)⟩) hW (kS_in (by decide)) rfl rfl rfl hl.1 (Nat.le_of_ble_eq_true rfl) ⟨Nat.zero_le _, Nat.zero_le _⟩ dX8_readsItem_111 (fun H locs hW => ?_)
            refine lv_bipush (v := (59 : Int32)) hx hb dX8_readsItem_114 (by decide) ?_
            refine lv_icmp_eq (tgt := 121) hx hb dX8_readsItem_116 (by decide) (fun q8 => ?_) (fun q8 => ?_)
            · rw [if_pos q8] at hf
              refine lv_aload_n hx hb dX8_readsItem_121 rfl (lv_at hl 0 rfl) ?_
              refine lv_dup hx hb dX8_readsItem_122 rfl ?_
              refine gf_X8_readAt hx hb hts hown hW (kS_in (by decide)) iX8 (List.mem_of_getElem? (i := 2) rfl) dX8_readsItem_123 ?_
              refine lv_iconst (v := (1 : Int32)) hx hb dX8_readsItem_126 (by decide) ?_
              refine lv_iadd hx hb dX8_readsItem_127 ?_
              refine pf_X8_readAt hx hb hts hown hW (kS_in (by decide)) iX8 (List.mem_of_getElem? (i := 2) rfl) dX8_readsItem_128 (fun H locs hW => ?_)
              refine lv_aload_n hx hb dX8_readsItem_131 rfl (lv_at hl 0 rfl) ?_
              refine lv_dup hx hb dX8_readsItem_132 rfl ?_
              refine gf_X8_itemMany hx hb hts hown hW (kS_in (by decide)) iX8 (List.mem_of_getElem? (i := 1) rfl) dX8_readsItem_133 ?_
              refine lv_iconst (v := (1 : Int32)) hx hb dX8_readsItem_136 (by decide) ?_
              refine lv_iadd hx hb dX8_readsItem_137 ?_
              refine pf_X8_itemMany hx hb hts hown hW (kS_in (by decide)) iX8 (List.mem_of_getElem? (i := 1) rfl) dX8_readsItem_138 (fun H locs hW => ?_)
              refine lv_iconst (v := (1 : Int32)) hx hb dX8_readsItem_141 (by decide) ?_
              exact re_z hx hb hr hlocks hW (by decide) (Option.some.inj hf) dX8_readsItem_142
            · rw [if_neg q8] at hf
              refine lv_iconst (v := (0 : Int32)) hx hb dX8_readsItem_119 (by decide) ?_
              exact re_z hx hb hr hlocks hW (by decide) (Option.some.inj hf) dX8_readsItem_120
          have L60 : ∀ (n60 : Nat), ∀ (x60_2 : Int32) (σ60_ : ss_M) (H : Heap) (locs : List Loc) (ls : Array Slot), sW 1 D Y A σ60_ s s.heap H locs → lv_has ls 3 [(0, .ref (A 0 7 0)), (1, .int r1), (2, .int x60_2)] → f_X8_readsItem_L60 r1 (f_X8_readsItem_j106) n60 x60_2 σ60_ = some (r, σ') → W p l e rm_X8_readsItem s m args below meth c H locs 0 0 (MQ below (Qi0 1 D Y A r σ') args s 0 0 (FA 1 A)) (F0 m 60 ls []) := by
            intro n60
            induction n60 with
            | zero =>
              intro x60_2 σ60_ H locs ls hW hl hf
              rw [f_X8_readsItem_L60] at hf
              cases hf
            | succ n60 ih60 =>
              intro x60_2 σ60_ H locs ls hW hl hf
              rw [f_X8_readsItem_L60] at hf
              refine lv_iload_n hx hb dX8_readsItem_60 rfl (lv_at hl 2 rfl) ?_
              refine lv_iload_n hx hb dX8_readsItem_61 rfl (lv_at hl 1 rfl) ?_
              refine lv_iconst (v := (1 : Int32)) hx hb dX8_readsItem_62 (by decide) ?_
              have J71 : ∀ (s71_0 : Int32) (σ71_ : ss_M) (H : Heap) (locs : List Loc) (ls : Array Slot), sW 1 D Y A σ71_ s s.heap H locs → lv_has ls 3 [(0, .ref (A 0 7 0)), (1, .int r1), (2, .int x60_2)] → f_X8_readsItem_j71 x60_2 (f_X8_readsItem_L60 r1 (f_X8_readsItem_j106) n60) (f_X8_readsItem_j106) s71_0 σ71_ = some (r, σ') → W p l e rm_X8_readsItem s m args below meth c H locs 0 0 (MQ below (Qi0 1 D Y A r σ') args s 0 0 (FA 1 A)) (F0 m 71 ls [.int s71_0, .int x60_2]) := by
                intro s71_0 σ71_ H locs ls hW hl hf
                rw [f_X8_readsItem_j71] at hf
                refine lv_icmp_ge (tgt := 106) hx hb dX8_readsItem_71 (by decide) (fun q9 => ?_) (fun q9 => ?_)
                · rw [if_pos q9] at hf
                  exact J106 σ71_ _ _ _ hW (lv_sub hl [0] rfl) hf
                · rw [if_neg q9] at hf
                  refine lv_aload_n hx hb dX8_readsItem_74 rfl (lv_at hl 0 rfl) ?_
                  obtain ⟨r10, σ10, hf10, hf⟩ := ss_bd_some hf
                  refine rv_i S (c_X8_number l hAD  hf10) (cwV 0 hts gX8_readsItem_X8_number rfl rfl rfl hd_X8_number ⟨(Nat.le_of_ble_eq_true rfl), (Nat.le_of_ble_eq_true rfl)⟩) hW (kS_in (by decide)) rfl rfl rfl hl.1 (Nat.le_of_ble_eq_true rfl) ⟨Nat.zero_le _, Nat.zero_le _⟩ dX8_readsItem_75 (fun H locs hW => ?_)
                  refine lv_if_ne (tgt := 83) hx hb dX8_readsItem_78 (by decide) (fun q11 => ?_) (fun q11 => ?_)
                  · rw [if_neg q11] at hf
                    refine lv_aload_n hx hb dX8_readsItem_83 rfl (lv_at hl 0 rfl) ?_
                    refine gf_X8_items hx hb hts hown hW (kS_in (by decide)) iX8 (List.mem_of_getElem? (i := 3) rfl) dX8_readsItem_84 ?_
                    refine lv_iconst (v := (3 : Int32)) hx hb dX8_readsItem_87 (by decide) ?_
                    refine lv_aload_n hx hb dX8_readsItem_88 rfl (lv_at hl 0 rfl) ?_
                    refine gf_X8_itemMany hx hb hts hown hW (kS_in (by decide)) iX8 (List.mem_of_getElem? (i := 1) rfl) dX8_readsItem_89 ?_
                    refine lv_imul hx hb dX8_readsItem_92 ?_
                    refine lv_iload_n hx hb dX8_readsItem_93 rfl (lv_at hl 2 rfl) ?_
                    refine lv_iadd hx hb dX8_readsItem_94 ?_
                    refine lv_aload_n hx hb dX8_readsItem_95 rfl (lv_at hl 0 rfl) ?_
                    refine gf_X8_readNumber hx hb hts hown hW (kS_in (by decide)) iX8 (List.mem_of_getElem? (i := 4) rfl) dX8_readsItem_96 ?_
                    obtain ⟨g12, hf⟩ := ss_if hf
                    refine rs_i hx hb hW (kS_in (by decide)) g12 dX8_readsItem_99 (fun H locs hW => ?_)
                    refine lv_iinc (v := (x60_2 + (1 : Int32))) (lv' := [(2, .int (x60_2 + (1 : Int32))), (0, .ref (A 0 7 0)), (1, .int r1)]) hx hb dX8_readsItem_100 hl (k := 2) rfl rfl (by decide) rfl (fun ls hl => ?_)
                    refine lv_goto (tgt := 60) hx hb dX8_readsItem_103 (by decide) ?_
                    exact ih60 (x60_2 + (1 : Int32)) (sAu σ10 22 0 (upd (sA σ10 22 0) ((((3 : Int32) * (sG σ10 26 0)) + x60_2)).toNatClampNeg (sG σ10 25 0))) _ _ _ hW (lv_sub hl [1, 2, 0] rfl) hf
                  · rw [if_pos q11] at hf
                    refine lv_iconst (v := (0 : Int32)) hx hb dX8_readsItem_81 (by decide) ?_
                    exact re_z hx hb hr hlocks hW (by decide) (Option.some.inj hf) dX8_readsItem_82
              refine lv_icmp_ne (tgt := 70) hx hb dX8_readsItem_63 (by decide) (fun q13 => ?_) (fun q13 => ?_)
              · rw [if_neg q13] at hf
                refine lv_iconst (v := (3 : Int32)) hx hb dX8_readsItem_70 (by decide) ?_
                exact J71 (3 : Int32) σ60_ _ _ _ hW (lv_sub hl [0, 1, 2] rfl) hf
              · rw [if_pos q13] at hf
                refine lv_iconst (v := (2 : Int32)) hx hb dX8_readsItem_66 (by decide) ?_
                refine lv_goto (tgt := 71) hx hb dX8_readsItem_67 (by decide) ?_
                exact J71 (2 : Int32) σ60_ _ _ _ hW (lv_sub hl [0, 1, 2] rfl) hf
          exact L60 FU (1 : Int32) σm5 _ _ _ hW (lv_sub hl [1, 2, 0] rfl) hf
        · rw [if_neg q3] at hf
          refine lv_iconst (v := (0 : Int32)) hx hb dX8_readsItem_34 (by decide) ?_
          exact re_z hx hb hr hlocks hW (by decide) (Option.some.inj hf) dX8_readsItem_35
      refine lv_if_ne (tgt := 30) hx hb dX8_readsItem_23 (by decide) (fun q14 => ?_) (fun q14 => ?_)
      · rw [if_neg q14] at hf
        refine lv_iconst (v := (0 : Int32)) hx hb dX8_readsItem_30 (by decide) ?_
        exact J31 (0 : Int32) σ19_ _ _ _ hW (lv_sub hl [0, 1] rfl) hf
      · rw [if_pos q14] at hf
        refine lv_iconst (v := (1 : Int32)) hx hb dX8_readsItem_26 (by decide) ?_
        refine lv_goto (tgt := 31) hx hb dX8_readsItem_27 (by decide) ?_
        exact J31 (1 : Int32) σ19_ _ _ _ hW (lv_sub hl [0, 1] rfl) hf
    refine lv_if_ne (tgt := 18) hx hb dX8_readsItem_11 (by decide) (fun q15 => ?_) (fun q15 => ?_)
    · rw [if_neg q15] at hf
      refine lv_iconst (v := (0 : Int32)) hx hb dX8_readsItem_18 (by decide) ?_
      exact J19 (0 : Int32) σ1 _ _ _ hW (lv_sub hl [1, 0] rfl) hf
    · rw [if_pos q15] at hf
      refine lv_iconst (v := (1 : Int32)) hx hb dX8_readsItem_14 (by decide) ?_
      refine lv_goto (tgt := 19) hx hb dX8_readsItem_15 (by decide) ?_
      exact J19 (1 : Int32) σ1 _ _ _ hW (lv_sub hl [1, 0] rfl) hf
def f_X8_readsPage_L23 : Nat → Int32 → ss_M → Option (Int32 × ss_M)
  | 0, _, _ => none
  | n23 + 1, x23_1, σ23_ => if x23_1 = (0 : Int32) then (if x23_1 &&& (1 : Int32) = x23_1 then (some (x23_1, σ23_)) else none) else (if (sG σ23_ 23 0) ≤ (sG σ23_ 24 0) then (if x23_1 &&& (1 : Int32) = x23_1 then (some (x23_1, σ23_)) else none) else (ss_bd (f_X8_readsItem σ23_) (fun r8 σ8 => Option.bind (f_X8_skip σ8) (fun σ9 => (f_X8_readsPage_L23 n23) r8 σ9))))
def f_X8_readsPage (σ : ss_M) : Option (Int32 × ss_M) :=
  Option.bind (f_X8_skip (sGu (sGu σ 24 0 (0 : Int32)) 26 0 (0 : Int32))) (fun σ1 => ss_bd (f_X8_readsItem σ1) (fun r2 σ2 => Option.bind (f_X8_skip σ2) (fun σ3 => f_X8_readsPage_L23 FU r2 σ3)))
def rm_X8_readsPage : Room := { frames := 10, cells := 0, slots := 0, locals := 500 }
theorem hd_X8_readsPage : yX8_readsPage.cls = RX8 ∧ yX8_readsPage.cls ≠ "java/lang/invoke/MethodHandle" ∧ yX8_readsPage.cls ≠ "java/lang/invoke/VarHandle" ∧ (parseMethodDescriptor yX8_readsPage.desc).map (fun d => d.parameters.length) = some 0 := by decide +kernel
set_option maxHeartbeats 4000000 in
set_option maxRecDepth 100000 in
theorem c_X8_readsPage (l : Launch) {D : va_G} {Y : Nat → ClassId} {A : ss_A} (hAD : AD 1 A)   {r : Int32} {σ σ' : ss_M} (hf : f_X8_readsPage σ = some (r, σ')) : Met l yX8_readsPage wsX8_readsPage rm_X8_readsPage (Pc0 1 D Y A σ [.ref (A 0 7 0)]) (Qi0 1 D Y A r σ') 0 0 (FA 1 A) := by
  rw [f_X8_readsPage] at hf
  refine Met0 (cc := cX8_readsPage) (maxL := 2) (ret := (some .boolean)) (own := RX8) (by decide +kernel) rfl hAD rfl (Nat.le_of_ble_eq_true rfl) ?_
  intro p e s m args below meth c S hr hlocks hW ls hl
  obtain ⟨hx, hb, hml, hown, hts⟩ := id S
  have iX8 : ∀ q ∈ wsX80, q ∈ wsX8_readsPage := fun q h => List.mem_cons_of_mem _ (List.mem_append_right _ (h))
  have hl : lv_has ls 2 [(0, .ref (A 0 7 0))] := hl
  refine lv_aload_n hx hb dX8_readsPage_0 rfl (lv_at hl 0 rfl) ?_
  refine lv_iconst (v := (0 : Int32)) hx hb dX8_readsPage_1 (by decide) ?_
  refine pf_X8_readAt hx hb hts hown hW (kS_in (by decide)) iX8 (List.mem_of_getElem? (i := 1) rfl) dX8_readsPage_2 (fun H locs hW => ?_)
  refine lv_aload_n hx hb dX8_readsPage_5 rfl (lv_at hl 0 rfl) ?_
  refine lv_iconst (v := (0 : Int32)) hx hb dX8_readsPage_6 (by decide) ?_
  refine pf_X8_itemMany hx hb hts hown hW (kS_in (by decide)) iX8 (List.mem_of_getElem? (i := 2) rfl) dX8_readsPage_7 (fun H locs hW => ?_)
  refine lv_aload_n hx hb dX8_readsPage_10 rfl (lv_at hl 0 rfl) ?_
  obtain ⟨σ1, hf1, hf⟩ := ss_bind hf
  refine rv_v S (c_X8_skip l hAD  hf1) (cwV 0 hts gX8_readsPage_X8_skip rfl rfl rfl hd_X8_skip ⟨(Nat.le_of_ble_eq_true rfl), (Nat.le_of_ble_eq_true rfl)⟩) hW (kS_in (by decide)) rfl rfl rfl hl.1 (Nat.le_of_ble_eq_true rfl) ⟨Nat.zero_le _, Nat.zero_le _⟩ dX8_readsPage_11 (fun H locs hW => ?_)
  refine lv_aload_n hx hb dX8_readsPage_14 rfl (lv_at hl 0 rfl) ?_
  obtain ⟨r2, σ2, hf2, hf⟩ := ss_bd_some hf
  refine rv_i S (c_X8_readsItem l hAD  hf2) (cwV 0 hts gX8_readsPage_X8_readsItem rfl rfl rfl hd_X8_readsItem ⟨(Nat.le_of_ble_eq_true rfl), (Nat.le_of_ble_eq_true rfl)⟩) hW (kS_in (by decide)) rfl rfl rfl hl.1 (Nat.le_of_ble_eq_true rfl) ⟨Nat.zero_le _, Nat.zero_le _⟩ dX8_readsPage_15 (fun H locs hW => ?_)
  refine lv_istore_n (lv' := [(1, .int r2), (0, .ref (A 0 7 0))]) hx hb dX8_readsPage_18 rfl hl (by decide) rfl (fun ls hl => ?_)
  refine lv_aload_n hx hb dX8_readsPage_19 rfl (lv_at hl 1 rfl) ?_
  obtain ⟨σ3, hf3, hf⟩ := ss_bind hf
  refine rv_v S (c_X8_skip l hAD  hf3) (cwV 0 hts gX8_readsPage_X8_skip rfl rfl rfl hd_X8_skip ⟨(Nat.le_of_ble_eq_true rfl), (Nat.le_of_ble_eq_true rfl)⟩) hW (kS_in (by decide)) rfl rfl rfl hl.1 (Nat.le_of_ble_eq_true rfl) ⟨Nat.zero_le _, Nat.zero_le _⟩ dX8_readsPage_20 (fun H locs hW => ?_)
  have L23 : ∀ (n23 : Nat), ∀ (x23_1 : Int32) (σ23_ : ss_M) (H : Heap) (locs : List Loc) (ls : Array Slot), sW 1 D Y A σ23_ s s.heap H locs → lv_has ls 2 [(0, .ref (A 0 7 0)), (1, .int x23_1)] → f_X8_readsPage_L23 n23 x23_1 σ23_ = some (r, σ') → W p l e rm_X8_readsPage s m args below meth c H locs 0 0 (MQ below (Qi0 1 D Y A r σ') args s 0 0 (FA 1 A)) (F0 m 23 ls []) := by
    intro n23
    induction n23 with
    | zero =>
      intro x23_1 σ23_ H locs ls hW hl hf
      rw [f_X8_readsPage_L23] at hf
      cases hf
    | succ n23 ih23 =>
      intro x23_1 σ23_ H locs ls hW hl hf
      rw [f_X8_readsPage_L23] at hf
      refine lv_iload_n hx hb dX8_readsPage_23 rfl (lv_at hl 1 rfl) ?_
      refine lv_if_eq (tgt := 50) hx hb dX8_readsPage_24 (by decide) (fun q4 => ?_) (fun q4 => ?_)
      · rw [if_pos q4] at hf
        refine lv_iload_n hx hb dX8_readsPage_50 rfl (lv_at hl 1 rfl) ?_
        obtain ⟨g5, hf⟩ := ss_if hf
        exact re_z hx hb hr hlocks hW g5 (Option.some.inj hf) dX8_readsPage_51
      · rw [if_neg q4] at hf
        refine lv_aload_n hx hb dX8_readsPage_27 rfl (lv_at hl 0 rfl) ?_
        refine gf_X8_readAt hx hb hts hown hW (kS_in (by decide)) iX8 (List.mem_of_getElem? (i := 1) rfl) dX8_readsPage_28 ?_
        refine lv_aload_n hx hb dX8_readsPage_31 rfl (lv_at hl 0 rfl) ?_
        refine gf_X8_typed hx hb hts hown hW (kS_in (by decide)) iX8 (List.mem_of_getElem? (i := 3) rfl) dX8_readsPage_32 ?_
        refine lv_icmp_ge (tgt := 50) hx hb dX8_readsPage_35 (by decide) (fun q6 => ?_) (fun q6 => ?_)
        · rw [if_pos q6] at hf
          refine lv_iload_n hx hb dX8_readsPage_50 rfl (lv_at hl 1 rfl) ?_
          obtain ⟨g7, hf⟩ := ss_if hf
          exact re_z hx hb hr hlocks hW g7 (Option.some.inj hf) dX8_readsPage_51
        · rw [if_neg q6] at hf
          refine lv_aload_n hx hb dX8_readsPage_38 rfl (lv_at hl 0 rfl) ?_
          obtain ⟨r8, σ8, hf8, hf⟩ := ss_bd_some hf
          refine rv_i S (c_X8_readsItem l hAD  hf8) (cwV 0 hts gX8_readsPage_X8_readsItem rfl rfl rfl hd_X8_readsItem ⟨(Nat.le_of_ble_eq_true rfl), (Nat.le_of_ble_eq_true rfl)⟩) hW (kS_in (by decide)) rfl rfl rfl hl.1 (Nat.le_of_ble_eq_true rfl) ⟨Nat.zero_le _, Nat.zero_le _⟩ dX8_readsPage_39 (fun H locs hW => ?_)
          refine lv_istore_n (lv' := [(1, .int r8), (0, .ref (A 0 7 0))]) hx hb dX8_readsPage_42 rfl hl (by decide) rfl (fun ls hl => ?_)
          refine lv_aload_n hx hb dX8_readsPage_43 rfl (lv_at hl 1 rfl) ?_
          obtain ⟨σ9, hf9, hf⟩ := ss_bind hf
          refine rv_v S (c_X8_skip l hAD  hf9) (cwV 0 hts gX8_readsPage_X8_skip rfl rfl rfl hd_X8_skip ⟨(Nat.le_of_ble_eq_true rfl), (Nat.le_of_ble_eq_true rfl)⟩) hW (kS_in (by decide)) rfl rfl rfl hl.1 (Nat.le_of_ble_eq_true rfl) ⟨Nat.zero_le _, Nat.zero_le _⟩ dX8_readsPage_44 (fun H locs hW => ?_)
          refine lv_goto (tgt := 23) hx hb dX8_readsPage_47 (by decide) ?_
          exact ih23 r8 σ9 _ _ _ hW (lv_sub hl [1, 0] rfl) hf
  exact L23 FU r2 σ3 _ _ _ hW (lv_sub hl [1, 0] rfl) hf
def f_X8_refusedItem_j128 (x4_1 : Int32) (x4_2 : Int32) (kb4 : Int32 → Int32 → ss_M → Option (Int32 × ss_M)) (s128_0 : Int32) (σ128_ : ss_M) : Option (Int32 × ss_M) :=
  kb4 (x4_1 + s128_0) (x4_2 + (1 : Int32)) σ128_
def f_X8_refusedItem_j107 (x4_1 : Int32) (x4_2 : Int32) (kb4 : Int32 → Int32 → ss_M → Option (Int32 × ss_M)) (x107_5 : Int32) (s107_0 : Int32) (σ107_ : ss_M) : Option (Int32 × ss_M) :=
  if s107_0 = (0 : Int32) then (some (x4_2, σ107_)) else (if x107_5 = (1 : Int32) then (f_X8_refusedItem_j128 x4_1 x4_2 kb4 (1 : Int32) σ107_) else (f_X8_refusedItem_j128 x4_1 x4_2 kb4 (0 : Int32) σ107_))
def f_X8_refusedItem_j106 (x4_1 : Int32) (x4_2 : Int32) (kb4 : Int32 → Int32 → ss_M → Option (Int32 × ss_M)) (x106_5 : Int32) (σ106_ : ss_M) : Option (Int32 × ss_M) :=
  f_X8_refusedItem_j107 x4_1 x4_2 kb4 x106_5 (0 : Int32) σ106_
def f_X8_refusedItem_j85 (x4_1 : Int32) (x4_2 : Int32) (kb4 : Int32 → Int32 → ss_M → Option (Int32 × ss_M)) (x85_5 : Int32) (σ85_ : ss_M) : Option (Int32 × ss_M) :=
  f_X8_refusedItem_j107 x4_1 x4_2 kb4 x85_5 (0 : Int32) σ85_
def f_X8_refusedItem_L4 : Nat → Int32 → Int32 → ss_M → Option (Int32 × ss_M)
  | 0, _, _, _ => none
  | n4 + 1, x4_1, x4_2, σ4_ => if (sG σ4_ 26 0) ≤ x4_2 then (some ((-1 : Int32), σ4_)) else (if gd (((3 : Int32) * x4_2) + (1 : Int32)) 225 = true then (if gd (((3 : Int32) * x4_2) + (2 : Int32)) 225 = true then (if gd ((3 : Int32) * x4_2) 225 = true then (if (sA σ4_ 22 0 (((3 : Int32) * x4_2)).toNatClampNeg) = (0 : Int32) then (ss_bd (f_X8_isPage (sA σ4_ 22 0 ((((3 : Int32) * x4_2) + (1 : Int32))).toNatClampNeg) (sA σ4_ 22 0 ((((3 : Int32) * x4_2) + (2 : Int32))).toNatClampNeg) σ4_) (fun r15 σ15 => f_X8_refusedItem_j107 x4_1 x4_2 (f_X8_refusedItem_L4 n4) (sA σ4_ 22 0 (((3 : Int32) * x4_2)).toNatClampNeg) r15 σ15)) else (if (sA σ4_ 22 0 (((3 : Int32) * x4_2)).toNatClampNeg) = (1 : Int32) then (ss_bd (f_X8_in (sA σ4_ 22 0 ((((3 : Int32) * x4_2) + (1 : Int32))).toNatClampNeg) (1 : Int32) (9 : Int32) σ4_) (fun r12 σ12 => if r12 = (0 : Int32) then (f_X8_refusedItem_j85 x4_1 x4_2 (f_X8_refusedItem_L4 n4) (sA σ4_ 22 0 (((3 : Int32) * x4_2)).toNatClampNeg) σ12) else (if (12 : Int32) ≤ x4_1 then (f_X8_refusedItem_j85 x4_1 x4_2 (f_X8_refusedItem_L4 n4) (sA σ4_ 22 0 (((3 : Int32) * x4_2)).toNatClampNeg) σ12) else (f_X8_refusedItem_j107 x4_1 x4_2 (f_X8_refusedItem_L4 n4) (sA σ4_ 22 0 (((3 : Int32) * x4_2)).toNatClampNeg) (1 : Int32) σ12)))) else (if x4_1 ≤ (sA σ4_ 22 0 ((((3 : Int32) * x4_2) + (1 : Int32))).toNatClampNeg) then (f_X8_refusedItem_j106 x4_1 x4_2 (f_X8_refusedItem_L4 n4) (sA σ4_ 22 0 (((3 : Int32) * x4_2)).toNatClampNeg) σ4_) else (ss_bd (f_X8_isKind (sA σ4_ 22 0 ((((3 : Int32) * x4_2) + (2 : Int32))).toNatClampNeg) σ4_) (fun r10 σ10 => if r10 = (0 : Int32) then (f_X8_refusedItem_j106 x4_1 x4_2 (f_X8_refusedItem_L4 n4) (sA σ4_ 22 0 (((3 : Int32) * x4_2)).toNatClampNeg) σ10) else (f_X8_refusedItem_j107 x4_1 x4_2 (f_X8_refusedItem_L4 n4) (sA σ4_ 22 0 (((3 : Int32) * x4_2)).toNatClampNeg) (1 : Int32) σ10)))))) else none) else none) else none)
def f_X8_refusedItem (σ : ss_M) : Option (Int32 × ss_M) :=
  f_X8_refusedItem_L4 FU (0 : Int32) (0 : Int32) σ
def rm_X8_refusedItem : Room := { frames := 4, cells := 0, slots := 0, locals := 200 }
theorem hd_X8_refusedItem : yX8_refusedItem.cls = RX8 ∧ yX8_refusedItem.cls ≠ "java/lang/invoke/MethodHandle" ∧ yX8_refusedItem.cls ≠ "java/lang/invoke/VarHandle" ∧ (parseMethodDescriptor yX8_refusedItem.desc).map (fun d => d.parameters.length) = some 0 := by decide +kernel
set_option maxHeartbeats 4000000 in
set_option maxRecDepth 100000 in
theorem c_X8_refusedItem (l : Launch) {D : va_G} {Y : Nat → ClassId} {A : ss_A} (hAD : AD 1 A)   {r : Int32} {σ σ' : ss_M} (hf : f_X8_refusedItem σ = some (r, σ')) : Met l yX8_refusedItem wsX8_refusedItem rm_X8_refusedItem (Pc0 1 D Y A σ [.ref (A 0 7 0)]) (Qi0 1 D Y A r σ') 0 0 (FA 1 A) := by
  rw [f_X8_refusedItem] at hf
  refine Met0 (cc := cX8_refusedItem) (maxL := 7) (ret := (some .int)) (own := RX8) (by decide +kernel) rfl hAD rfl (Nat.le_of_ble_eq_true rfl) ?_
  intro p e s m args below meth c S hr hlocks hW ls hl
  obtain ⟨hx, hb, hml, hown, hts⟩ := id S
  have iX8 : ∀ q ∈ wsX80, q ∈ wsX8_refusedItem := fun q h => List.mem_cons_of_mem _ (List.mem_append_right _ (h))
  have hl : lv_has ls 7 [(0, .ref (A 0 7 0))] := hl
  refine lv_iconst (v := (0 : Int32)) hx hb dX8_refusedItem_0 (by decide) ?_
  refine lv_istore_n (lv' := [(1, .int (0 : Int32)), (0, .ref (A 0 7 0))]) hx hb dX8_refusedItem_1 rfl hl (by decide) rfl (fun ls hl => ?_)
  refine lv_iconst (v := (0 : Int32)) hx hb dX8_refusedItem_2 (by decide) ?_
  refine lv_istore_n (lv' := [(2, .int (0 : Int32)), (1, .int (0 : Int32)), (0, .ref (A 0 7 0))]) hx hb dX8_refusedItem_3 rfl hl (by decide) rfl (fun ls hl => ?_)
  have L4 : ∀ (n4 : Nat), ∀ (x4_1 : Int32) (x4_2 : Int32) (σ4_ : ss_M) (H : Heap) (locs : List Loc) (ls : Array Slot), sW 1 D Y A σ4_ s s.heap H locs → lv_has ls 7 [(0, .ref (A 0 7 0)), (1, .int x4_1), (2, .int x4_2)] → f_X8_refusedItem_L4 n4 x4_1 x4_2 σ4_ = some (r, σ') → W p l e rm_X8_refusedItem s m args below meth c H locs 0 0 (MQ below (Qi0 1 D Y A r σ') args s 0 0 (FA 1 A)) (F0 m 4 ls []) := by
    intro n4
    induction n4 with
    | zero =>
      intro x4_1 x4_2 σ4_ H locs ls hW hl hf
      rw [f_X8_refusedItem_L4] at hf
      cases hf
    | succ n4 ih4 =>
      intro x4_1 x4_2 σ4_ H locs ls hW hl hf
      rw [f_X8_refusedItem_L4] at hf
      refine lv_iload_n hx hb dX8_refusedItem_4 rfl (lv_at hl 2 rfl) ?_
      refine lv_aload_n hx hb dX8_refusedItem_5 rfl (lv_at hl 0 rfl) ?_
      refine gf_X8_itemMany hx hb hts hown hW (kS_in (by decide)) iX8 (List.mem_of_getElem? (i := 1) rfl) dX8_refusedItem_6 ?_
      refine lv_icmp_ge (tgt := 136) hx hb dX8_refusedItem_9 (by decide) (fun q1 => ?_) (fun q1 => ?_)
      · rw [if_pos q1] at hf
        refine lv_iconst (v := (-1 : Int32)) hx hb dX8_refusedItem_136 (by decide) ?_
        exact re_i hx hb hr hlocks hW (Option.some.inj hf) dX8_refusedItem_137
      · rw [if_neg q1] at hf
        refine lv_aload_n hx hb dX8_refusedItem_12 rfl (lv_at hl 0 rfl) ?_
        refine gf_X8_items hx hb hts hown hW (kS_in (by decide)) iX8 (List.mem_of_getElem? (i := 2) rfl) dX8_refusedItem_13 ?_
        refine lv_iconst (v := (3 : Int32)) hx hb dX8_refusedItem_16 (by decide) ?_
        refine lv_iload_n hx hb dX8_refusedItem_17 rfl (lv_at hl 2 rfl) ?_
        refine lv_imul hx hb dX8_refusedItem_18 ?_
        refine lv_iconst (v := (1 : Int32)) hx hb dX8_refusedItem_19 (by decide) ?_
        refine lv_iadd hx hb dX8_refusedItem_20 ?_
        obtain ⟨g2, hf⟩ := ss_if hf
        refine ra_i hx hb hW (kS_in (by decide)) g2 dX8_refusedItem_21 ?_
        refine lv_istore_n (lv' := [(3, .int (sA σ4_ 22 0 ((((3 : Int32) * x4_2) + (1 : Int32))).toNatClampNeg)), (0, .ref (A 0 7 0)), (1, .int x4_1), (2, .int x4_2)]) hx hb dX8_refusedItem_22 rfl hl (by decide) rfl (fun ls hl => ?_)
        refine lv_aload_n hx hb dX8_refusedItem_23 rfl (lv_at hl 1 rfl) ?_
        refine gf_X8_items hx hb hts hown hW (kS_in (by decide)) iX8 (List.mem_of_getElem? (i := 2) rfl) dX8_refusedItem_24 ?_
        refine lv_iconst (v := (3 : Int32)) hx hb dX8_refusedItem_27 (by decide) ?_
        refine lv_iload_n hx hb dX8_refusedItem_28 rfl (lv_at hl 3 rfl) ?_
        refine lv_imul hx hb dX8_refusedItem_29 ?_
        refine lv_iconst (v := (2 : Int32)) hx hb dX8_refusedItem_30 (by decide) ?_
        refine lv_iadd hx hb dX8_refusedItem_31 ?_
        obtain ⟨g3, hf⟩ := ss_if hf
        refine ra_i hx hb hW (kS_in (by decide)) g3 dX8_refusedItem_32 ?_
        refine lv_istore (lv' := [(4, .int (sA σ4_ 22 0 ((((3 : Int32) * x4_2) + (2 : Int32))).toNatClampNeg)), (3, .int (sA σ4_ 22 0 ((((3 : Int32) * x4_2) + (1 : Int32))).toNatClampNeg)), (0, .ref (A 0 7 0)), (1, .int x4_1), (2, .int x4_2)]) hx hb dX8_refusedItem_33 hl (by decide) rfl (fun ls hl => ?_)
        refine lv_aload_n hx hb dX8_refusedItem_35 rfl (lv_at hl 2 rfl) ?_
        refine gf_X8_items hx hb hts hown hW (kS_in (by decide)) iX8 (List.mem_of_getElem? (i := 2) rfl) dX8_refusedItem_36 ?_
        refine lv_iconst (v := (3 : Int32)) hx hb dX8_refusedItem_39 (by decide) ?_
        refine lv_iload_n hx hb dX8_refusedItem_40 rfl (lv_at hl 4 rfl) ?_
        refine lv_imul hx hb dX8_refusedItem_41 ?_
        obtain ⟨g4, hf⟩ := ss_if hf
        refine ra_i hx hb hW (kS_in (by decide)) g4 dX8_refusedItem_42 ?_
        refine lv_istore (lv' := [(5, .int (sA σ4_ 22 0 (((3 : Int32) * x4_2)).toNatClampNeg)), (4, .int (sA σ4_ 22 0 ((((3 : Int32) * x4_2) + (2 : Int32))).toNatClampNeg)), (3, .int (sA σ4_ 22 0 ((((3 : Int32) * x4_2) + (1 : Int32))).toNatClampNeg)), (0, .ref (A 0 7 0)), (1, .int x4_1), (2, .int x4_2)]) hx hb dX8_refusedItem_43 hl (by decide) rfl (fun ls hl => ?_)
        refine lv_iload hx hb dX8_refusedItem_45 (lv_at hl 0 rfl) ?_
        have J107 : ∀ (x107_5 : Int32) (s107_0 : Int32) (σ107_ : ss_M) (H : Heap) (locs : List Loc) (ls : Array Slot), sW 1 D Y A σ107_ s s.heap H locs → lv_has ls 7 [(0, .ref (A 0 7 0)), (1, .int x4_1), (2, .int x4_2), (5, .int x107_5)] → f_X8_refusedItem_j107 x4_1 x4_2 (f_X8_refusedItem_L4 n4) x107_5 s107_0 σ107_ = some (r, σ') → W p l e rm_X8_refusedItem s m args below meth c H locs 0 0 (MQ below (Qi0 1 D Y A r σ') args s 0 0 (FA 1 A)) (F0 m 107 ls [.int s107_0]) := by
          intro x107_5 s107_0 σ107_ H locs ls hW hl hf
          rw [f_X8_refusedItem_j107] at hf
          refine lv_istore (lv' := [(6, .int s107_0), (0, .ref (A 0 7 0)), (1, .int x4_1), (2, .int x4_2), (5, .int x107_5)]) hx hb dX8_refusedItem_107 hl (by decide) rfl (fun ls hl => ?_)
          refine lv_iload hx hb dX8_refusedItem_109 (lv_at hl 0 rfl) ?_
          refine lv_if_ne (tgt := 116) hx hb dX8_refusedItem_111 (by decide) (fun q5 => ?_) (fun q5 => ?_)
          · rw [if_neg q5] at hf
            refine lv_iload_n hx hb dX8_refusedItem_116 rfl (lv_at hl 2 rfl) ?_
            refine lv_iload hx hb dX8_refusedItem_117 (lv_at hl 4 rfl) ?_
            refine lv_iconst (v := (1 : Int32)) hx hb dX8_refusedItem_119 (by decide) ?_
            have J128 : ∀ (s128_0 : Int32) (σ128_ : ss_M) (H : Heap) (locs : List Loc) (ls : Array Slot), sW 1 D Y A σ128_ s s.heap H locs → lv_has ls 7 [(0, .ref (A 0 7 0)), (2, .int x4_2)] → f_X8_refusedItem_j128 x4_1 x4_2 (f_X8_refusedItem_L4 n4) s128_0 σ128_ = some (r, σ') → W p l e rm_X8_refusedItem s m args below meth c H locs 0 0 (MQ below (Qi0 1 D Y A r σ') args s 0 0 (FA 1 A)) (F0 m 128 ls [.int s128_0, .int x4_1]) := by
              intro s128_0 σ128_ H locs ls hW hl hf
              rw [f_X8_refusedItem_j128] at hf
              refine lv_iadd hx hb dX8_refusedItem_128 ?_
              refine lv_istore_n (lv' := [(1, .int (x4_1 + s128_0)), (0, .ref (A 0 7 0)), (2, .int x4_2)]) hx hb dX8_refusedItem_129 rfl hl (by decide) rfl (fun ls hl => ?_)
              refine lv_iinc (v := (x4_2 + (1 : Int32))) (lv' := [(2, .int (x4_2 + (1 : Int32))), (1, .int (x4_1 + s128_0)), (0, .ref (A 0 7 0))]) hx hb dX8_refusedItem_130 hl (k := 2) rfl rfl (by decide) rfl (fun ls hl => ?_)
              refine lv_goto (tgt := 4) hx hb dX8_refusedItem_133 (by decide) ?_
              exact ih4 (x4_1 + s128_0) (x4_2 + (1 : Int32)) σ128_ _ _ _ hW (lv_sub hl [2, 1, 0] rfl) hf
            refine lv_icmp_ne (tgt := 127) hx hb dX8_refusedItem_120 (by decide) (fun q6 => ?_) (fun q6 => ?_)
            · rw [if_neg q6] at hf
              refine lv_iconst (v := (0 : Int32)) hx hb dX8_refusedItem_127 (by decide) ?_
              exact J128 (0 : Int32) σ107_ _ _ _ hW (lv_sub hl [1, 3] rfl) hf
            · rw [if_pos q6] at hf
              refine lv_iconst (v := (1 : Int32)) hx hb dX8_refusedItem_123 (by decide) ?_
              refine lv_goto (tgt := 128) hx hb dX8_refusedItem_124 (by decide) ?_
              exact J128 (1 : Int32) σ107_ _ _ _ hW (lv_sub hl [1, 3] rfl) hf
          · rw [if_pos q5] at hf
            refine lv_iload_n hx hb dX8_refusedItem_114 rfl (lv_at hl 3 rfl) ?_
            exact re_i hx hb hr hlocks hW (Option.some.inj hf) dX8_refusedItem_115
        refine lv_if_ne (tgt := 59) hx hb dX8_refusedItem_47 (by decide) (fun q7 => ?_) (fun q7 => ?_)
        · rw [if_neg q7] at hf
          refine lv_iload hx hb dX8_refusedItem_59 (lv_at hl 0 rfl) ?_
          refine lv_iconst (v := (1 : Int32)) hx hb dX8_refusedItem_61 (by decide) ?_
          refine lv_icmp_ne (tgt := 89) hx hb dX8_refusedItem_62 (by decide) (fun q8 => ?_) (fun q8 => ?_)
          · rw [if_neg q8] at hf
            refine lv_iload_n hx hb dX8_refusedItem_89 rfl (lv_at hl 2 rfl) ?_
            refine lv_iload_n hx hb dX8_refusedItem_90 rfl (lv_at hl 4 rfl) ?_
            have J106 : ∀ (x106_5 : Int32) (σ106_ : ss_M) (H : Heap) (locs : List Loc) (ls : Array Slot), sW 1 D Y A σ106_ s s.heap H locs → lv_has ls 7 [(0, .ref (A 0 7 0)), (1, .int x4_1), (2, .int x4_2), (5, .int x106_5)] → f_X8_refusedItem_j106 x4_1 x4_2 (f_X8_refusedItem_L4 n4) x106_5 σ106_ = some (r, σ') → W p l e rm_X8_refusedItem s m args below meth c H locs 0 0 (MQ below (Qi0 1 D Y A r σ') args s 0 0 (FA 1 A)) (F0 m 106 ls []) := by
              intro x106_5 σ106_ H locs ls hW hl hf
              rw [f_X8_refusedItem_j106] at hf
              refine lv_iconst (v := (0 : Int32)) hx hb dX8_refusedItem_106 (by decide) ?_
              exact J107 x106_5 (0 : Int32) σ106_ _ _ _ hW (lv_sub hl [0, 1, 2, 3] rfl) hf
            refine lv_icmp_ge (tgt := 106) hx hb dX8_refusedItem_91 (by decide) (fun q9 => ?_) (fun q9 => ?_)
            · rw [if_pos q9] at hf
              exact J106 (sA σ4_ 22 0 (((3 : Int32) * x4_2)).toNatClampNeg) σ4_ _ _ _ hW (lv_sub hl [3, 4, 5, 0] rfl) hf
            · rw [if_neg q9] at hf
              refine lv_iload hx hb dX8_refusedItem_94 (lv_at hl 1 rfl) ?_
              obtain ⟨r10, σ10, hf10, hf⟩ := ss_bd_some hf
              refine rt_i S (c_X8_isKind l hAD  hf10) (va_cwS 1 hts gX8_refusedItem_X8_isKind rfl rfl rfl hd_X8_isKind ⟨(Nat.le_of_ble_eq_true rfl), (Nat.le_of_ble_eq_true rfl)⟩) hW rfl rfl hl.1 (Nat.le_of_ble_eq_true rfl) ⟨Nat.zero_le _, Nat.zero_le _⟩ dX8_refusedItem_96 (fun H locs hW => ?_)
              refine lv_if_eq (tgt := 106) hx hb dX8_refusedItem_99 (by decide) (fun q11 => ?_) (fun q11 => ?_)
              · rw [if_pos q11] at hf
                exact J106 (sA σ4_ 22 0 (((3 : Int32) * x4_2)).toNatClampNeg) σ10 _ _ _ hW (lv_sub hl [3, 4, 5, 0] rfl) hf
              · rw [if_neg q11] at hf
                refine lv_iconst (v := (1 : Int32)) hx hb dX8_refusedItem_102 (by decide) ?_
                refine lv_goto (tgt := 107) hx hb dX8_refusedItem_103 (by decide) ?_
                exact J107 (sA σ4_ 22 0 (((3 : Int32) * x4_2)).toNatClampNeg) (1 : Int32) σ10 _ _ _ hW (lv_sub hl [3, 4, 5, 0] rfl) hf
          · rw [if_pos q8] at hf
            refine lv_iload_n hx hb dX8_refusedItem_65 rfl (lv_at hl 2 rfl) ?_
            refine lv_iconst (v := (1 : Int32)) hx hb dX8_refusedItem_66 (by decide) ?_
            refine lv_bipush (v := (9 : Int32)) hx hb dX8_refusedItem_67 (by decide) ?_
            obtain ⟨r12, σ12, hf12, hf⟩ := ss_bd_some hf
            refine rt_i S (c_X8_in l hAD  hf12) (va_cwS 3 hts gX8_refusedItem_X8_in rfl rfl rfl hd_X8_in ⟨(Nat.le_of_ble_eq_true rfl), (Nat.le_of_ble_eq_true rfl)⟩) hW rfl rfl hl.1 (Nat.le_of_ble_eq_true rfl) ⟨Nat.zero_le _, Nat.zero_le _⟩ dX8_refusedItem_69 (fun H locs hW => ?_)
            have J85 : ∀ (x85_5 : Int32) (σ85_ : ss_M) (H : Heap) (locs : List Loc) (ls : Array Slot), sW 1 D Y A σ85_ s s.heap H locs → lv_has ls 7 [(0, .ref (A 0 7 0)), (1, .int x4_1), (2, .int x4_2), (5, .int x85_5)] → f_X8_refusedItem_j85 x4_1 x4_2 (f_X8_refusedItem_L4 n4) x85_5 σ85_ = some (r, σ') → W p l e rm_X8_refusedItem s m args below meth c H locs 0 0 (MQ below (Qi0 1 D Y A r σ') args s 0 0 (FA 1 A)) (F0 m 85 ls []) := by
              intro x85_5 σ85_ H locs ls hW hl hf
              rw [f_X8_refusedItem_j85] at hf
              refine lv_iconst (v := (0 : Int32)) hx hb dX8_refusedItem_85 (by decide) ?_
              refine lv_goto (tgt := 107) hx hb dX8_refusedItem_86 (by decide) ?_
              exact J107 x85_5 (0 : Int32) σ85_ _ _ _ hW (lv_sub hl [0, 1, 2, 3] rfl) hf
            refine lv_if_eq (tgt := 85) hx hb dX8_refusedItem_72 (by decide) (fun q13 => ?_) (fun q13 => ?_)
            · rw [if_pos q13] at hf
              exact J85 (sA σ4_ 22 0 (((3 : Int32) * x4_2)).toNatClampNeg) σ12 _ _ _ hW (lv_sub hl [3, 4, 5, 0] rfl) hf
            · rw [if_neg q13] at hf
              refine lv_iload_n hx hb dX8_refusedItem_75 rfl (lv_at hl 4 rfl) ?_
              refine lv_bipush (v := (12 : Int32)) hx hb dX8_refusedItem_76 (by decide) ?_
              refine lv_icmp_ge (tgt := 85) hx hb dX8_refusedItem_78 (by decide) (fun q14 => ?_) (fun q14 => ?_)
              · rw [if_pos q14] at hf
                exact J85 (sA σ4_ 22 0 (((3 : Int32) * x4_2)).toNatClampNeg) σ12 _ _ _ hW (lv_sub hl [3, 4, 5, 0] rfl) hf
              · rw [if_neg q14] at hf
                refine lv_iconst (v := (1 : Int32)) hx hb dX8_refusedItem_81 (by decide) ?_
                refine lv_goto (tgt := 107) hx hb dX8_refusedItem_82 (by decide) ?_
                exact J107 (sA σ4_ 22 0 (((3 : Int32) * x4_2)).toNatClampNeg) (1 : Int32) σ12 _ _ _ hW (lv_sub hl [3, 4, 5, 0] rfl) hf
        · rw [if_pos q7] at hf
          refine lv_iload_n hx hb dX8_refusedItem_50 rfl (lv_at hl 2 rfl) ?_
          refine lv_iload hx hb dX8_refusedItem_51 (lv_at hl 1 rfl) ?_
          obtain ⟨r15, σ15, hf15, hf⟩ := ss_bd_some hf
          refine rt_i S (c_X8_isPage l hAD  hf15) (va_cwS 2 hts gX8_refusedItem_X8_isPage rfl rfl rfl hd_X8_isPage ⟨(Nat.le_of_ble_eq_true rfl), (Nat.le_of_ble_eq_true rfl)⟩) hW rfl rfl hl.1 (Nat.le_of_ble_eq_true rfl) ⟨Nat.zero_le _, Nat.zero_le _⟩ dX8_refusedItem_53 (fun H locs hW => ?_)
          refine lv_goto (tgt := 107) hx hb dX8_refusedItem_56 (by decide) ?_
          exact J107 (sA σ4_ 22 0 (((3 : Int32) * x4_2)).toNatClampNeg) r15 σ15 _ _ _ hW (lv_sub hl [3, 4, 5, 0] rfl) hf
  exact L4 FU (0 : Int32) (0 : Int32) σ _ _ _ hW (lv_sub hl [2, 1, 0] rfl) hf
def f_X8_read_j117 (σ117_ : ss_M) : Option (Int32 × ss_M) :=
  some ((sG σ117_ 26 0), σ117_)
def f_X8_read_j111 (x49_2 : Int32) (kb49 : Int32 → ss_M → Option (Int32 × ss_M)) (σ111_ : ss_M) : Option (Int32 × ss_M) :=
  kb49 (x49_2 + (1 : Int32)) σ111_
def f_X8_read_L49 (k49_117 : ss_M → Option (Int32 × ss_M)) : Nat → Int32 → ss_M → Option (Int32 × ss_M)
  | 0, _, _ => none
  | n49 + 1, x49_2, σ49_ => if (sG σ49_ 26 0) ≤ x49_2 then (k49_117 σ49_) else (if gd ((3 : Int32) * x49_2) 225 = true then (if (sA σ49_ 22 0 (((3 : Int32) * x49_2)).toNatClampNeg) = (1 : Int32) then (if gd (((3 : Int32) * x49_2) + (1 : Int32)) 225 = true then (ss_bd (f_X8_add (sA σ49_ 22 0 ((((3 : Int32) * x49_2) + (1 : Int32))).toNatClampNeg) σ49_) (fun r15 σ15 => f_X8_read_j111 x49_2 (f_X8_read_L49 k49_117 n49) σ15)) else none) else (if gd (((3 : Int32) * x49_2) + (1 : Int32)) 225 = true then (if gd (((3 : Int32) * x49_2) + (2 : Int32)) 225 = true then (Option.bind (f_X8_mark (sA σ49_ 22 0 ((((3 : Int32) * x49_2) + (1 : Int32))).toNatClampNeg) (sA σ49_ 22 0 ((((3 : Int32) * x49_2) + (2 : Int32))).toNatClampNeg) σ49_) (fun σ13 => f_X8_read_j111 x49_2 (f_X8_read_L49 k49_117 n49) σ13)) else none) else none)) else none)
def f_X8_read (σ : ss_M) : Option (Int32 × ss_M) :=
  ss_bd (f_X8_readsPage σ) (fun r1 σ1 => if r1 = (0 : Int32) then (some (((-10 : Int32) - (sG σ1 24 0)), σ1)) else (ss_bd (f_X8_refusedItem σ1) (fun r3 σ3 => if r3 = (-1 : Int32) then (if gd (1 : Int32) 225 = true then (if gd (2 : Int32) 225 = true then (Option.bind (f_X8_begin (sA σ3 22 0 ((1 : Int32)).toNatClampNeg) (sA σ3 22 0 ((2 : Int32)).toNatClampNeg) σ3) (fun σ7 => f_X8_read_L49 (f_X8_read_j117) FU (1 : Int32) σ7)) else none) else none) else (some (((-1000 : Int32) - r3), σ3)))))
def rm_X8_read : Room := { frames := 12, cells := 0, slots := 0, locals := 600 }
theorem hd_X8_read : yX8_read.cls = RX8 ∧ yX8_read.cls ≠ "java/lang/invoke/MethodHandle" ∧ yX8_read.cls ≠ "java/lang/invoke/VarHandle" ∧ (parseMethodDescriptor yX8_read.desc).map (fun d => d.parameters.length) = some 0 := by decide +kernel
set_option maxHeartbeats 4000000 in
set_option maxRecDepth 100000 in
theorem c_X8_read (l : Launch) {D : va_G} {Y : Nat → ClassId} {A : ss_A} (hAD : AD 1 A)   {r : Int32} {σ σ' : ss_M} (hf : f_X8_read σ = some (r, σ')) : Met l yX8_read wsX8_read rm_X8_read (Pc0 1 D Y A σ [.ref (A 0 7 0)]) (Qi0 1 D Y A r σ') 0 0 (FA 1 A) := by
  rw [f_X8_read] at hf
  refine Met0 (cc := cX8_read) (maxL := 3) (ret := (some .int)) (own := RX8) (by decide +kernel) rfl hAD rfl (Nat.le_of_ble_eq_true rfl) ?_
  intro p e s m args below meth c S hr hlocks hW ls hl
  obtain ⟨hx, hb, hml, hown, hts⟩ := id S
  have iX8 : ∀ q ∈ wsX80, q ∈ wsX8_read := fun q h => List.mem_cons_of_mem _ (List.mem_append_right _ (h))
  have hl : lv_has ls 3 [(0, .ref (A 0 7 0))] := hl
  refine lv_aload_n hx hb dX8_read_0 rfl (lv_at hl 0 rfl) ?_
  obtain ⟨r1, σ1, hf1, hf⟩ := ss_bd_some hf
  refine rv_i S (c_X8_readsPage l hAD  hf1) (cwV 0 hts gX8_read_X8_readsPage rfl rfl rfl hd_X8_readsPage ⟨(Nat.le_of_ble_eq_true rfl), (Nat.le_of_ble_eq_true rfl)⟩) hW (kS_in (by decide)) rfl rfl rfl hl.1 (Nat.le_of_ble_eq_true rfl) ⟨Nat.zero_le _, Nat.zero_le _⟩ dX8_read_1 (fun H locs hW => ?_)
  refine lv_if_ne (tgt := 15) hx hb dX8_read_4 (by decide) (fun q2 => ?_) (fun q2 => ?_)
  · rw [if_neg q2] at hf
    refine lv_aload_n hx hb dX8_read_15 rfl (lv_at hl 0 rfl) ?_
    obtain ⟨r3, σ3, hf3, hf⟩ := ss_bd_some hf
    refine rv_i S (c_X8_refusedItem l hAD  hf3) (cwV 0 hts gX8_read_X8_refusedItem rfl rfl rfl hd_X8_refusedItem ⟨(Nat.le_of_ble_eq_true rfl), (Nat.le_of_ble_eq_true rfl)⟩) hW (kS_in (by decide)) rfl rfl rfl hl.1 (Nat.le_of_ble_eq_true rfl) ⟨Nat.zero_le _, Nat.zero_le _⟩ dX8_read_16 (fun H locs hW => ?_)
    refine lv_istore_n (lv' := [(1, .int r3), (0, .ref (A 0 7 0))]) hx hb dX8_read_19 rfl hl (by decide) rfl (fun ls hl => ?_)
    refine lv_iload_n hx hb dX8_read_20 rfl (lv_at hl 0 rfl) ?_
    refine lv_iconst (v := (-1 : Int32)) hx hb dX8_read_21 (by decide) ?_
    refine lv_icmp_eq (tgt := 31) hx hb dX8_read_22 (by decide) (fun q4 => ?_) (fun q4 => ?_)
    · rw [if_pos q4] at hf
      refine lv_aload_n hx hb dX8_read_31 rfl (lv_at hl 1 rfl) ?_
      refine lv_aload_n hx hb dX8_read_32 rfl (lv_at hl 1 rfl) ?_
      refine gf_X8_items hx hb hts hown hW (kS_in (by decide)) iX8 (List.mem_of_getElem? (i := 2) rfl) dX8_read_33 ?_
      refine lv_iconst (v := (1 : Int32)) hx hb dX8_read_36 (by decide) ?_
      obtain ⟨g5, hf⟩ := ss_if hf
      refine ra_i hx hb hW (kS_in (by decide)) g5 dX8_read_37 ?_
      refine lv_aload_n hx hb dX8_read_38 rfl (lv_at hl 1 rfl) ?_
      refine gf_X8_items hx hb hts hown hW (kS_in (by decide)) iX8 (List.mem_of_getElem? (i := 2) rfl) dX8_read_39 ?_
      refine lv_iconst (v := (2 : Int32)) hx hb dX8_read_42 (by decide) ?_
      obtain ⟨g6, hf⟩ := ss_if hf
      refine ra_i hx hb hW (kS_in (by decide)) g6 dX8_read_43 ?_
      obtain ⟨σ7, hf7, hf⟩ := ss_bind hf
      refine rv_v S (c_X8_begin l hAD  hf7) (cwV 2 hts gX8_read_X8_begin rfl rfl rfl hd_X8_begin ⟨(Nat.le_of_ble_eq_true rfl), (Nat.le_of_ble_eq_true rfl)⟩) hW (kS_in (by decide)) rfl rfl rfl hl.1 (Nat.le_of_ble_eq_true rfl) ⟨Nat.zero_le _, Nat.zero_le _⟩ dX8_read_44 (fun H locs hW => ?_)
      refine lv_iconst (v := (1 : Int32)) hx hb dX8_read_47 (by decide) ?_
      refine lv_istore_n (lv' := [(2, .int (1 : Int32)), (1, .int r3), (0, .ref (A 0 7 0))]) hx hb dX8_read_48 rfl hl (by decide) rfl (fun ls hl => ?_)
      have J117 : ∀ (σ117_ : ss_M) (H : Heap) (locs : List Loc) (ls : Array Slot), sW 1 D Y A σ117_ s s.heap H locs → lv_has ls 3 [(0, .ref (A 0 7 0))] → f_X8_read_j117 σ117_ = some (r, σ') → W p l e rm_X8_read s m args below meth c H locs 0 0 (MQ below (Qi0 1 D Y A r σ') args s 0 0 (FA 1 A)) (F0 m 117 ls []) := by
        intro σ117_ H locs ls hW hl hf
        rw [f_X8_read_j117] at hf
        refine lv_aload_n hx hb dX8_read_117 rfl (lv_at hl 0 rfl) ?_
        refine gf_X8_itemMany hx hb hts hown hW (kS_in (by decide)) iX8 (List.mem_of_getElem? (i := 3) rfl) dX8_read_118 ?_
        exact re_i hx hb hr hlocks hW (Option.some.inj hf) dX8_read_121
      have L49 : ∀ (n49 : Nat), ∀ (x49_2 : Int32) (σ49_ : ss_M) (H : Heap) (locs : List Loc) (ls : Array Slot), sW 1 D Y A σ49_ s s.heap H locs → lv_has ls 3 [(0, .ref (A 0 7 0)), (2, .int x49_2)] → f_X8_read_L49 (f_X8_read_j117) n49 x49_2 σ49_ = some (r, σ') → W p l e rm_X8_read s m args below meth c H locs 0 0 (MQ below (Qi0 1 D Y A r σ') args s 0 0 (FA 1 A)) (F0 m 49 ls []) := by
        intro n49
        induction n49 with
        | zero =>
          intro x49_2 σ49_ H locs ls hW hl hf
          rw [f_X8_read_L49] at hf
          cases hf
        | succ n49 ih49 =>
          intro x49_2 σ49_ H locs ls hW hl hf
          rw [f_X8_read_L49] at hf
          refine lv_iload_n hx hb dX8_read_49 rfl (lv_at hl 1 rfl) ?_
          refine lv_aload_n hx hb dX8_read_50 rfl (lv_at hl 0 rfl) ?_
          refine gf_X8_itemMany hx hb hts hown hW (kS_in (by decide)) iX8 (List.mem_of_getElem? (i := 3) rfl) dX8_read_51 ?_
          refine lv_icmp_ge (tgt := 117) hx hb dX8_read_54 (by decide) (fun q8 => ?_) (fun q8 => ?_)
          · rw [if_pos q8] at hf
            exact J117 σ49_ _ _ _ hW (lv_sub hl [0] rfl) hf
          · rw [if_neg q8] at hf
            refine lv_aload_n hx hb dX8_read_57 rfl (lv_at hl 0 rfl) ?_
            refine gf_X8_items hx hb hts hown hW (kS_in (by decide)) iX8 (List.mem_of_getElem? (i := 2) rfl) dX8_read_58 ?_
            refine lv_iconst (v := (3 : Int32)) hx hb dX8_read_61 (by decide) ?_
            refine lv_iload_n hx hb dX8_read_62 rfl (lv_at hl 1 rfl) ?_
            refine lv_imul hx hb dX8_read_63 ?_
            obtain ⟨g9, hf⟩ := ss_if hf
            refine ra_i hx hb hW (kS_in (by decide)) g9 dX8_read_64 ?_
            refine lv_iconst (v := (1 : Int32)) hx hb dX8_read_65 (by decide) ?_
            have J111 : ∀ (σ111_ : ss_M) (H : Heap) (locs : List Loc) (ls : Array Slot), sW 1 D Y A σ111_ s s.heap H locs → lv_has ls 3 [(0, .ref (A 0 7 0)), (2, .int x49_2)] → f_X8_read_j111 x49_2 (f_X8_read_L49 (f_X8_read_j117) n49) σ111_ = some (r, σ') → W p l e rm_X8_read s m args below meth c H locs 0 0 (MQ below (Qi0 1 D Y A r σ') args s 0 0 (FA 1 A)) (F0 m 111 ls []) := by
              intro σ111_ H locs ls hW hl hf
              rw [f_X8_read_j111] at hf
              refine lv_iinc (v := (x49_2 + (1 : Int32))) (lv' := [(2, .int (x49_2 + (1 : Int32))), (0, .ref (A 0 7 0))]) hx hb dX8_read_111 hl (k := 1) rfl rfl (by decide) rfl (fun ls hl => ?_)
              refine lv_goto (tgt := 49) hx hb dX8_read_114 (by decide) ?_
              exact ih49 (x49_2 + (1 : Int32)) σ111_ _ _ _ hW (lv_sub hl [1, 0] rfl) hf
            refine lv_icmp_ne (tgt := 87) hx hb dX8_read_66 (by decide) (fun q10 => ?_) (fun q10 => ?_)
            · rw [if_neg q10] at hf
              refine lv_aload_n hx hb dX8_read_87 rfl (lv_at hl 0 rfl) ?_
              refine lv_aload_n hx hb dX8_read_88 rfl (lv_at hl 0 rfl) ?_
              refine gf_X8_items hx hb hts hown hW (kS_in (by decide)) iX8 (List.mem_of_getElem? (i := 2) rfl) dX8_read_89 ?_
              refine lv_iconst (v := (3 : Int32)) hx hb dX8_read_92 (by decide) ?_
              refine lv_iload_n hx hb dX8_read_93 rfl (lv_at hl 1 rfl) ?_
              refine lv_imul hx hb dX8_read_94 ?_
              refine lv_iconst (v := (1 : Int32)) hx hb dX8_read_95 (by decide) ?_
              refine lv_iadd hx hb dX8_read_96 ?_
              obtain ⟨g11, hf⟩ := ss_if hf
              refine ra_i hx hb hW (kS_in (by decide)) g11 dX8_read_97 ?_
              refine lv_aload_n hx hb dX8_read_98 rfl (lv_at hl 0 rfl) ?_
              refine gf_X8_items hx hb hts hown hW (kS_in (by decide)) iX8 (List.mem_of_getElem? (i := 2) rfl) dX8_read_99 ?_
              refine lv_iconst (v := (3 : Int32)) hx hb dX8_read_102 (by decide) ?_
              refine lv_iload_n hx hb dX8_read_103 rfl (lv_at hl 1 rfl) ?_
              refine lv_imul hx hb dX8_read_104 ?_
              refine lv_iconst (v := (2 : Int32)) hx hb dX8_read_105 (by decide) ?_
              refine lv_iadd hx hb dX8_read_106 ?_
              obtain ⟨g12, hf⟩ := ss_if hf
              refine ra_i hx hb hW (kS_in (by decide)) g12 dX8_read_107 ?_
              obtain ⟨σ13, hf13, hf⟩ := ss_bind hf
              refine rv_v S (c_X8_mark l hAD  hf13) (cwV 2 hts gX8_read_X8_mark rfl rfl rfl hd_X8_mark ⟨(Nat.le_of_ble_eq_true rfl), (Nat.le_of_ble_eq_true rfl)⟩) hW (kS_in (by decide)) rfl rfl rfl hl.1 (Nat.le_of_ble_eq_true rfl) ⟨Nat.zero_le _, Nat.zero_le _⟩ dX8_read_108 (fun H locs hW => ?_)
              exact J111 σ13 _ _ _ hW (lv_sub hl [0, 1] rfl) hf
            · rw [if_pos q10] at hf
              refine lv_aload_n hx hb dX8_read_69 rfl (lv_at hl 0 rfl) ?_
              refine lv_aload_n hx hb dX8_read_70 rfl (lv_at hl 0 rfl) ?_
              refine gf_X8_items hx hb hts hown hW (kS_in (by decide)) iX8 (List.mem_of_getElem? (i := 2) rfl) dX8_read_71 ?_
              refine lv_iconst (v := (3 : Int32)) hx hb dX8_read_74 (by decide) ?_
              refine lv_iload_n hx hb dX8_read_75 rfl (lv_at hl 1 rfl) ?_
              refine lv_imul hx hb dX8_read_76 ?_
              refine lv_iconst (v := (1 : Int32)) hx hb dX8_read_77 (by decide) ?_
              refine lv_iadd hx hb dX8_read_78 ?_
              obtain ⟨g14, hf⟩ := ss_if hf
              refine ra_i hx hb hW (kS_in (by decide)) g14 dX8_read_79 ?_
              obtain ⟨r15, σ15, hf15, hf⟩ := ss_bd_some hf
              refine rv_i S (c_X8_add l hAD  hf15) (cwV 1 hts gX8_read_X8_add rfl rfl rfl hd_X8_add ⟨(Nat.le_of_ble_eq_true rfl), (Nat.le_of_ble_eq_true rfl)⟩) hW (kS_in (by decide)) rfl rfl rfl hl.1 (Nat.le_of_ble_eq_true rfl) ⟨Nat.zero_le _, Nat.zero_le _⟩ dX8_read_80 (fun H locs hW => ?_)
              refine lv_pop hx hb dX8_read_83 rfl ?_
              refine lv_goto (tgt := 111) hx hb dX8_read_84 (by decide) ?_
              exact J111 σ15 _ _ _ hW (lv_sub hl [0, 1] rfl) hf
      exact L49 FU (1 : Int32) σ7 _ _ _ hW (lv_sub hl [2, 0] rfl) hf
    · rw [if_neg q4] at hf
      refine lv_sipush (v := (-1000 : Int32)) hx hb dX8_read_25 (by decide) ?_
      refine lv_iload_n hx hb dX8_read_28 rfl (lv_at hl 0 rfl) ?_
      refine lv_isub hx hb dX8_read_29 ?_
      exact re_i hx hb hr hlocks hW (Option.some.inj hf) dX8_read_30
  · rw [if_pos q2] at hf
    refine lv_bipush (v := (-10 : Int32)) hx hb dX8_read_7 (by decide) ?_
    refine lv_aload_n hx hb dX8_read_9 rfl (lv_at hl 0 rfl) ?_
    refine gf_X8_readAt hx hb hts hown hW (kS_in (by decide)) iX8 (List.mem_of_getElem? (i := 1) rfl) dX8_read_10 ?_
    refine lv_isub hx hb dX8_read_13 ?_
    exact re_i hx hb hr hlocks hW (Option.some.inj hf) dX8_read_14
def f_X8_costOf_j72 (σ : ss_M) (s72_0 : Int32) (σ72_ : ss_M) : Option (Int32 × ss_M) :=
  some ((((3 : Int32) * (sG σ 19 0)) - s72_0), σ72_)
def f_X8_costOf (p0 : Int32) (σ : ss_M) : Option (Int32 × ss_M) :=
  if p0 = (0 : Int32) then (some ((sG σ 19 0), σ)) else if p0 = (1 : Int32) then (some (((3 : Int32) * (sG σ 19 0)), σ)) else if p0 = (2 : Int32) then (if ((sG σ 21 0) - (sG σ 21 0) / (2 : Int32) * (2 : Int32)) = (1 : Int32) then (f_X8_costOf_j72 σ (sG σ 19 0) σ) else (f_X8_costOf_j72 σ (0 : Int32) σ)) else if p0 = (3 : Int32) then (some ((((6 : Int32) * (sG σ 19 0)) + ((sG σ 21 0) - (sG σ 21 0) / (4 : Int32) * (4 : Int32))), σ)) else if p0 = (4 : Int32) then (some (((sG σ 19 0) + (1 : Int32)), σ)) else (some ((((2 : Int32) * (sG σ 19 0)) + (2 : Int32)), σ))
def rm_X8_costOf : Room := { frames := 0, cells := 0, slots := 0, locals := 0 }
theorem hd_X8_costOf : yX8_costOf.cls = RX8 ∧ yX8_costOf.cls ≠ "java/lang/invoke/MethodHandle" ∧ yX8_costOf.cls ≠ "java/lang/invoke/VarHandle" ∧ (parseMethodDescriptor yX8_costOf.desc).map (fun d => d.parameters.length) = some 1 := by decide +kernel
set_option maxHeartbeats 4000000 in
set_option maxRecDepth 100000 in
theorem c_X8_costOf (l : Launch) {D : va_G} {Y : Nat → ClassId} {A : ss_A} (hAD : AD 1 A) {p0 : Int32}  {r : Int32} {σ σ' : ss_M} (hf : f_X8_costOf p0 σ = some (r, σ')) : Met l yX8_costOf wsX8_costOf rm_X8_costOf (Pc0 1 D Y A σ [.ref (A 0 7 0), .int p0]) (Qi0 1 D Y A r σ') 0 0 (FA 1 A) := by
  rw [f_X8_costOf] at hf
  refine Met0 (cc := cX8_costOf) (maxL := 2) (ret := (some .int)) (own := RX8) (by decide +kernel) rfl hAD rfl (Nat.le_of_ble_eq_true rfl) ?_
  intro p e s m args below meth c S hr hlocks hW ls hl
  obtain ⟨hx, hb, hml, hown, hts⟩ := id S
  have iX8 : ∀ q ∈ wsX80, q ∈ wsX8_costOf := fun q h => List.mem_cons_of_mem _ (List.mem_append_right _ (h))
  have hl : lv_has ls 2 [(0, .ref (A 0 7 0)), (1, .int p0)] := hl
  refine lv_iload_n hx hb dX8_costOf_0 rfl (lv_at hl 1 rfl) ?_
  by_cases q1 : p0 = (0 : Int32)
  · rw [if_pos q1] at hf
    refine lv_tableIn (off := 35) (tgt := 36) hx hb dX8_costOf_1 (by rw [q1]; decide) (by rw [q1]; decide) (by rw [q1]; decide) (by decide) ?_
    refine lv_aload_n hx hb dX8_costOf_36 rfl (lv_at hl 0 rfl) ?_
    refine gf_X8_price hx hb hts hown hW (kS_in (by decide)) iX8 (List.mem_of_getElem? (i := 1) rfl) dX8_costOf_37 ?_
    exact re_i hx hb hr hlocks hW (Option.some.inj hf) dX8_costOf_40
  · rw [if_neg q1] at hf
    by_cases q2 : p0 = (1 : Int32)
    · rw [if_pos q2] at hf
      refine lv_tableIn (off := 40) (tgt := 41) hx hb dX8_costOf_1 (by rw [q2]; decide) (by rw [q2]; decide) (by rw [q2]; decide) (by decide) ?_
      refine lv_iconst (v := (3 : Int32)) hx hb dX8_costOf_41 (by decide) ?_
      refine lv_aload_n hx hb dX8_costOf_42 rfl (lv_at hl 0 rfl) ?_
      refine gf_X8_price hx hb hts hown hW (kS_in (by decide)) iX8 (List.mem_of_getElem? (i := 1) rfl) dX8_costOf_43 ?_
      refine lv_imul hx hb dX8_costOf_46 ?_
      exact re_i hx hb hr hlocks hW (Option.some.inj hf) dX8_costOf_47
    · rw [if_neg q2] at hf
      by_cases q3 : p0 = (2 : Int32)
      · rw [if_pos q3] at hf
        refine lv_tableIn (off := 47) (tgt := 48) hx hb dX8_costOf_1 (by rw [q3]; decide) (by rw [q3]; decide) (by rw [q3]; decide) (by decide) ?_
        refine lv_iconst (v := (3 : Int32)) hx hb dX8_costOf_48 (by decide) ?_
        refine lv_aload_n hx hb dX8_costOf_49 rfl (lv_at hl 0 rfl) ?_
        refine gf_X8_price hx hb hts hown hW (kS_in (by decide)) iX8 (List.mem_of_getElem? (i := 1) rfl) dX8_costOf_50 ?_
        refine lv_imul hx hb dX8_costOf_53 ?_
        refine lv_aload_n hx hb dX8_costOf_54 rfl (lv_at hl 0 rfl) ?_
        refine gf_X8_week hx hb hts hown hW (kS_in (by decide)) iX8 (List.mem_of_getElem? (i := 2) rfl) dX8_costOf_55 ?_
        refine lv_iconst (v := (2 : Int32)) hx hb dX8_costOf_58 (by decide) ?_
        refine lv_irem hx hb dX8_costOf_59 (by decide) ?_
        refine lv_iconst (v := (1 : Int32)) hx hb dX8_costOf_60 (by decide) ?_
        have J72 : ∀ (s72_0 : Int32) (σ72_ : ss_M) (H : Heap) (locs : List Loc) (ls : Array Slot), sW 1 D Y A σ72_ s s.heap H locs → lv_has ls 2 [] → f_X8_costOf_j72 σ s72_0 σ72_ = some (r, σ') → W p l e rm_X8_costOf s m args below meth c H locs 0 0 (MQ below (Qi0 1 D Y A r σ') args s 0 0 (FA 1 A)) (F0 m 72 ls [.int s72_0, .int ((3 : Int32) * (sG σ 19 0))]) := by
          intro s72_0 σ72_ H locs ls hW hl hf
          rw [f_X8_costOf_j72] at hf
          refine lv_isub hx hb dX8_costOf_72 ?_
          exact re_i hx hb hr hlocks hW (Option.some.inj hf) dX8_costOf_73
        refine lv_icmp_ne (tgt := 71) hx hb dX8_costOf_61 (by decide) (fun q4 => ?_) (fun q4 => ?_)
        · rw [if_neg q4] at hf
          refine lv_iconst (v := (0 : Int32)) hx hb dX8_costOf_71 (by decide) ?_
          exact J72 (0 : Int32) σ _ _ _ hW (lv_sub hl [] rfl) hf
        · rw [if_pos q4] at hf
          refine lv_aload_n hx hb dX8_costOf_64 rfl (lv_at hl 0 rfl) ?_
          refine gf_X8_price hx hb hts hown hW (kS_in (by decide)) iX8 (List.mem_of_getElem? (i := 1) rfl) dX8_costOf_65 ?_
          refine lv_goto (tgt := 72) hx hb dX8_costOf_68 (by decide) ?_
          exact J72 (sG σ 19 0) σ _ _ _ hW (lv_sub hl [] rfl) hf
      · rw [if_neg q3] at hf
        by_cases q5 : p0 = (3 : Int32)
        · rw [if_pos q5] at hf
          refine lv_tableIn (off := 73) (tgt := 74) hx hb dX8_costOf_1 (by rw [q5]; decide) (by rw [q5]; decide) (by rw [q5]; decide) (by decide) ?_
          refine lv_bipush (v := (6 : Int32)) hx hb dX8_costOf_74 (by decide) ?_
          refine lv_aload_n hx hb dX8_costOf_76 rfl (lv_at hl 0 rfl) ?_
          refine gf_X8_price hx hb hts hown hW (kS_in (by decide)) iX8 (List.mem_of_getElem? (i := 1) rfl) dX8_costOf_77 ?_
          refine lv_imul hx hb dX8_costOf_80 ?_
          refine lv_aload_n hx hb dX8_costOf_81 rfl (lv_at hl 0 rfl) ?_
          refine gf_X8_week hx hb hts hown hW (kS_in (by decide)) iX8 (List.mem_of_getElem? (i := 2) rfl) dX8_costOf_82 ?_
          refine lv_iconst (v := (4 : Int32)) hx hb dX8_costOf_85 (by decide) ?_
          refine lv_irem hx hb dX8_costOf_86 (by decide) ?_
          refine lv_iadd hx hb dX8_costOf_87 ?_
          exact re_i hx hb hr hlocks hW (Option.some.inj hf) dX8_costOf_88
        · rw [if_neg q5] at hf
          by_cases q6 : p0 = (4 : Int32)
          · rw [if_pos q6] at hf
            refine lv_tableIn (off := 88) (tgt := 89) hx hb dX8_costOf_1 (by rw [q6]; decide) (by rw [q6]; decide) (by rw [q6]; decide) (by decide) ?_
            refine lv_aload_n hx hb dX8_costOf_89 rfl (lv_at hl 0 rfl) ?_
            refine gf_X8_price hx hb hts hown hW (kS_in (by decide)) iX8 (List.mem_of_getElem? (i := 1) rfl) dX8_costOf_90 ?_
            refine lv_iconst (v := (1 : Int32)) hx hb dX8_costOf_93 (by decide) ?_
            refine lv_iadd hx hb dX8_costOf_94 ?_
            exact re_i hx hb hr hlocks hW (Option.some.inj hf) dX8_costOf_95
          · rw [if_neg q6] at hf
            refine lv_tableOut (tgt := 96) hx hb dX8_costOf_1 (by have z := And.intro (lv_neT q1 (a := 0) rfl) (And.intro (lv_neT q2 (a := 1) rfl) (And.intro (lv_neT q3 (a := 2) rfl) (And.intro (lv_neT q5 (a := 3) rfl) (lv_neT q6 (a := 4) rfl)))); omega) (by decide) ?_
            refine lv_iconst (v := (2 : Int32)) hx hb dX8_costOf_96 (by decide) ?_
            refine lv_aload_n hx hb dX8_costOf_97 rfl (lv_at hl 0 rfl) ?_
            refine gf_X8_price hx hb hts hown hW (kS_in (by decide)) iX8 (List.mem_of_getElem? (i := 1) rfl) dX8_costOf_98 ?_
            refine lv_imul hx hb dX8_costOf_101 ?_
            refine lv_iconst (v := (2 : Int32)) hx hb dX8_costOf_102 (by decide) ?_
            refine lv_iadd hx hb dX8_costOf_103 ?_
            exact re_i hx hb hr hlocks hW (Option.some.inj hf) dX8_costOf_104
def f_X8_lesser (p0 : Int32) (p1 : Int32) (σ : ss_M) : Option (Int32 × ss_M) :=
  if p1 ≤ p0 then (some (p1, σ)) else (some (p0, σ))
def rm_X8_lesser : Room := { frames := 0, cells := 0, slots := 0, locals := 0 }
theorem hd_X8_lesser : yX8_lesser.cls ≠ "java/lang/invoke/MethodHandle" ∧ yX8_lesser.cls ≠ "java/lang/invoke/VarHandle" ∧ (parseMethodDescriptor yX8_lesser.desc).map (fun d => d.parameters.length) = some 2 := by decide +kernel
set_option maxHeartbeats 4000000 in
set_option maxRecDepth 100000 in
theorem c_X8_lesser (l : Launch) {D : va_G} {Y : Nat → ClassId} {A : ss_A} (hAD : AD 1 A) {p0 : Int32} {p1 : Int32}  {r : Int32} {σ σ' : ss_M} (hf : f_X8_lesser p0 p1 σ = some (r, σ')) : Met l yX8_lesser wsX8_lesser rm_X8_lesser (Pc0 1 D Y A σ [.int p0, .int p1]) (Qi0 1 D Y A r σ') 0 0 (FA 1 A) := by
  rw [f_X8_lesser] at hf
  refine Met0 (cc := cX8_lesser) (maxL := 2) (ret := (some .int)) (own := RX8) (by decide +kernel) rfl hAD rfl (Nat.le_of_ble_eq_true rfl) ?_
  intro p e s m args below meth c S hr hlocks hW ls hl
  obtain ⟨hx, hb, hml, hown, hts⟩ := id S
  have hl : lv_has ls 2 [(0, .int p0), (1, .int p1)] := hl
  refine lv_iload_n hx hb dX8_lesser_0 rfl (lv_at hl 0 rfl) ?_
  refine lv_iload_n hx hb dX8_lesser_1 rfl (lv_at hl 1 rfl) ?_
  refine lv_icmp_ge (tgt := 9) hx hb dX8_lesser_2 (by decide) (fun q1 => ?_) (fun q1 => ?_)
  · rw [if_pos q1] at hf
    refine lv_iload_n hx hb dX8_lesser_9 rfl (lv_at hl 1 rfl) ?_
    exact re_i hx hb hr hlocks hW (Option.some.inj hf) dX8_lesser_10
  · rw [if_neg q1] at hf
    refine lv_iload_n hx hb dX8_lesser_5 rfl (lv_at hl 0 rfl) ?_
    refine lv_goto (tgt := 10) hx hb dX8_lesser_6 (by decide) ?_
    exact re_i hx hb hr hlocks hW (Option.some.inj hf) dX8_lesser_10
def f_X8_greater (p0 : Int32) (p1 : Int32) (σ : ss_M) : Option (Int32 × ss_M) :=
  if p0 ≤ p1 then (some (p1, σ)) else (some (p0, σ))
def rm_X8_greater : Room := { frames := 0, cells := 0, slots := 0, locals := 0 }
theorem hd_X8_greater : yX8_greater.cls ≠ "java/lang/invoke/MethodHandle" ∧ yX8_greater.cls ≠ "java/lang/invoke/VarHandle" ∧ (parseMethodDescriptor yX8_greater.desc).map (fun d => d.parameters.length) = some 2 := by decide +kernel
set_option maxHeartbeats 4000000 in
set_option maxRecDepth 100000 in
theorem c_X8_greater (l : Launch) {D : va_G} {Y : Nat → ClassId} {A : ss_A} (hAD : AD 1 A) {p0 : Int32} {p1 : Int32}  {r : Int32} {σ σ' : ss_M} (hf : f_X8_greater p0 p1 σ = some (r, σ')) : Met l yX8_greater wsX8_greater rm_X8_greater (Pc0 1 D Y A σ [.int p0, .int p1]) (Qi0 1 D Y A r σ') 0 0 (FA 1 A) := by
  rw [f_X8_greater] at hf
  refine Met0 (cc := cX8_greater) (maxL := 2) (ret := (some .int)) (own := RX8) (by decide +kernel) rfl hAD rfl (Nat.le_of_ble_eq_true rfl) ?_
  intro p e s m args below meth c S hr hlocks hW ls hl
  obtain ⟨hx, hb, hml, hown, hts⟩ := id S
  have hl : lv_has ls 2 [(0, .int p0), (1, .int p1)] := hl
  refine lv_iload_n hx hb dX8_greater_0 rfl (lv_at hl 0 rfl) ?_
  refine lv_iload_n hx hb dX8_greater_1 rfl (lv_at hl 1 rfl) ?_
  refine lv_icmp_le (tgt := 9) hx hb dX8_greater_2 (by decide) (fun q1 => ?_) (fun q1 => ?_)
  · rw [if_pos q1] at hf
    refine lv_iload_n hx hb dX8_greater_9 rfl (lv_at hl 1 rfl) ?_
    exact re_i hx hb hr hlocks hW (Option.some.inj hf) dX8_greater_10
  · rw [if_neg q1] at hf
    refine lv_iload_n hx hb dX8_greater_5 rfl (lv_at hl 0 rfl) ?_
    refine lv_goto (tgt := 10) hx hb dX8_greater_6 (by decide) ?_
    exact re_i hx hb hr hlocks hW (Option.some.inj hf) dX8_greater_10
def f_X8_givenBy (p0 : Int32) (p1 : Int32) (p2 : Int32) (σ : ss_M) : Option (Int32 × ss_M) :=
  if p0 = (-1 : Int32) then (some (p1, σ)) else if p0 = (0 : Int32) then (ss_bd (f_X8_lesser p2 (p1 + (3 : Int32)) σ) (fun r3 σ3 => some (r3, σ3))) else if p0 = (1 : Int32) then (some (p2, σ)) else if p0 = (2 : Int32) then (some (p2, σ)) else if p0 = (3 : Int32) then (some (p2, σ)) else if p0 = (4 : Int32) then (ss_bd (f_X8_lesser p2 (p1 + (6 : Int32)) σ) (fun r8 σ8 => some (r8, σ8))) else if p0 = (5 : Int32) then (ss_bd (f_X8_lesser p2 (p1 + (6 : Int32)) σ) (fun r10 σ10 => ss_bd (f_X8_greater (p2 / (2 : Int32)) r10 σ10) (fun r11 σ11 => some (r11, σ11)))) else (some (p2, σ))
def rm_X8_givenBy : Room := { frames := 2, cells := 0, slots := 0, locals := 100 }
theorem hd_X8_givenBy : yX8_givenBy.cls ≠ "java/lang/invoke/MethodHandle" ∧ yX8_givenBy.cls ≠ "java/lang/invoke/VarHandle" ∧ (parseMethodDescriptor yX8_givenBy.desc).map (fun d => d.parameters.length) = some 3 := by decide +kernel
set_option maxHeartbeats 4000000 in
set_option maxRecDepth 100000 in
theorem c_X8_givenBy (l : Launch) {D : va_G} {Y : Nat → ClassId} {A : ss_A} (hAD : AD 1 A) {p0 : Int32} {p1 : Int32} {p2 : Int32}  {r : Int32} {σ σ' : ss_M} (hf : f_X8_givenBy p0 p1 p2 σ = some (r, σ')) : Met l yX8_givenBy wsX8_givenBy rm_X8_givenBy (Pc0 1 D Y A σ [.int p0, .int p1, .int p2]) (Qi0 1 D Y A r σ') 0 0 (FA 1 A) := by
  rw [f_X8_givenBy] at hf
  refine Met0 (cc := cX8_givenBy) (maxL := 3) (ret := (some .int)) (own := RX8) (by decide +kernel) rfl hAD rfl (Nat.le_of_ble_eq_true rfl) ?_
  intro p e s m args below meth c S hr hlocks hW ls hl
  obtain ⟨hx, hb, hml, hown, hts⟩ := id S
  have hl : lv_has ls 3 [(0, .int p0), (1, .int p1), (2, .int p2)] := hl
  refine lv_iload_n hx hb dX8_givenBy_0 rfl (lv_at hl 0 rfl) ?_
  by_cases q1 : p0 = (-1 : Int32)
  · rw [if_pos q1] at hf
    refine lv_tableIn (off := 43) (tgt := 44) hx hb dX8_givenBy_1 (by rw [q1]; decide) (by rw [q1]; decide) (by rw [q1]; decide) (by decide) ?_
    refine lv_iload_n hx hb dX8_givenBy_44 rfl (lv_at hl 1 rfl) ?_
    exact re_i hx hb hr hlocks hW (Option.some.inj hf) dX8_givenBy_45
  · rw [if_neg q1] at hf
    by_cases q2 : p0 = (0 : Int32)
    · rw [if_pos q2] at hf
      refine lv_tableIn (off := 45) (tgt := 46) hx hb dX8_givenBy_1 (by rw [q2]; decide) (by rw [q2]; decide) (by rw [q2]; decide) (by decide) ?_
      refine lv_iload_n hx hb dX8_givenBy_46 rfl (lv_at hl 2 rfl) ?_
      refine lv_iload_n hx hb dX8_givenBy_47 rfl (lv_at hl 1 rfl) ?_
      refine lv_iconst (v := (3 : Int32)) hx hb dX8_givenBy_48 (by decide) ?_
      refine lv_iadd hx hb dX8_givenBy_49 ?_
      obtain ⟨r3, σ3, hf3, hf⟩ := ss_bd_some hf
      refine rt_i S (c_X8_lesser l hAD  hf3) (va_cwS 2 hts gX8_givenBy_X8_lesser rfl rfl rfl hd_X8_lesser ⟨(Nat.le_of_ble_eq_true rfl), (Nat.le_of_ble_eq_true rfl)⟩) hW rfl rfl hl.1 (Nat.le_of_ble_eq_true rfl) ⟨Nat.zero_le _, Nat.zero_le _⟩ dX8_givenBy_50 (fun H locs hW => ?_)
      exact re_i hx hb hr hlocks hW (Option.some.inj hf) dX8_givenBy_53
    · rw [if_neg q2] at hf
      by_cases q4 : p0 = (1 : Int32)
      · rw [if_pos q4] at hf
        refine lv_tableIn (off := 77) (tgt := 78) hx hb dX8_givenBy_1 (by rw [q4]; decide) (by rw [q4]; decide) (by rw [q4]; decide) (by decide) ?_
        refine lv_iload_n hx hb dX8_givenBy_78 rfl (lv_at hl 2 rfl) ?_
        exact re_i hx hb hr hlocks hW (Option.some.inj hf) dX8_givenBy_79
      · rw [if_neg q4] at hf
        by_cases q5 : p0 = (2 : Int32)
        · rw [if_pos q5] at hf
          refine lv_tableIn (off := 77) (tgt := 78) hx hb dX8_givenBy_1 (by rw [q5]; decide) (by rw [q5]; decide) (by rw [q5]; decide) (by decide) ?_
          refine lv_iload_n hx hb dX8_givenBy_78 rfl (lv_at hl 2 rfl) ?_
          exact re_i hx hb hr hlocks hW (Option.some.inj hf) dX8_givenBy_79
        · rw [if_neg q5] at hf
          by_cases q6 : p0 = (3 : Int32)
          · rw [if_pos q6] at hf
            refine lv_tableIn (off := 77) (tgt := 78) hx hb dX8_givenBy_1 (by rw [q6]; decide) (by rw [q6]; decide) (by rw [q6]; decide) (by decide) ?_
            refine lv_iload_n hx hb dX8_givenBy_78 rfl (lv_at hl 2 rfl) ?_
            exact re_i hx hb hr hlocks hW (Option.some.inj hf) dX8_givenBy_79
          · rw [if_neg q6] at hf
            by_cases q7 : p0 = (4 : Int32)
            · rw [if_pos q7] at hf
              refine lv_tableIn (off := 53) (tgt := 54) hx hb dX8_givenBy_1 (by rw [q7]; decide) (by rw [q7]; decide) (by rw [q7]; decide) (by decide) ?_
              refine lv_iload_n hx hb dX8_givenBy_54 rfl (lv_at hl 2 rfl) ?_
              refine lv_iload_n hx hb dX8_givenBy_55 rfl (lv_at hl 1 rfl) ?_
              refine lv_bipush (v := (6 : Int32)) hx hb dX8_givenBy_56 (by decide) ?_
              refine lv_iadd hx hb dX8_givenBy_58 ?_
              obtain ⟨r8, σ8, hf8, hf⟩ := ss_bd_some hf
              refine rt_i S (c_X8_lesser l hAD  hf8) (va_cwS 2 hts gX8_givenBy_X8_lesser rfl rfl rfl hd_X8_lesser ⟨(Nat.le_of_ble_eq_true rfl), (Nat.le_of_ble_eq_true rfl)⟩) hW rfl rfl hl.1 (Nat.le_of_ble_eq_true rfl) ⟨Nat.zero_le _, Nat.zero_le _⟩ dX8_givenBy_59 (fun H locs hW => ?_)
              exact re_i hx hb hr hlocks hW (Option.some.inj hf) dX8_givenBy_62
            · rw [if_neg q7] at hf
              by_cases q9 : p0 = (5 : Int32)
              · rw [if_pos q9] at hf
                refine lv_tableIn (off := 62) (tgt := 63) hx hb dX8_givenBy_1 (by rw [q9]; decide) (by rw [q9]; decide) (by rw [q9]; decide) (by decide) ?_
                refine lv_iload_n hx hb dX8_givenBy_63 rfl (lv_at hl 2 rfl) ?_
                refine lv_iconst (v := (2 : Int32)) hx hb dX8_givenBy_64 (by decide) ?_
                refine lv_idiv hx hb dX8_givenBy_65 (by decide) ?_
                refine lv_iload_n hx hb dX8_givenBy_66 rfl (lv_at hl 2 rfl) ?_
                refine lv_iload_n hx hb dX8_givenBy_67 rfl (lv_at hl 1 rfl) ?_
                refine lv_bipush (v := (6 : Int32)) hx hb dX8_givenBy_68 (by decide) ?_
                refine lv_iadd hx hb dX8_givenBy_70 ?_
                obtain ⟨r10, σ10, hf10, hf⟩ := ss_bd_some hf
                refine rt_i S (c_X8_lesser l hAD  hf10) (va_cwS 2 hts gX8_givenBy_X8_lesser rfl rfl rfl hd_X8_lesser ⟨(Nat.le_of_ble_eq_true rfl), (Nat.le_of_ble_eq_true rfl)⟩) hW rfl rfl hl.1 (Nat.le_of_ble_eq_true rfl) ⟨Nat.zero_le _, Nat.zero_le _⟩ dX8_givenBy_71 (fun H locs hW => ?_)
                obtain ⟨r11, σ11, hf11, hf⟩ := ss_bd_some hf
                refine rt_i S (c_X8_greater l hAD  hf11) (va_cwS 2 hts gX8_givenBy_X8_greater rfl rfl rfl hd_X8_greater ⟨(Nat.le_of_ble_eq_true rfl), (Nat.le_of_ble_eq_true rfl)⟩) hW rfl rfl hl.1 (Nat.le_of_ble_eq_true rfl) ⟨Nat.zero_le _, Nat.zero_le _⟩ dX8_givenBy_74 (fun H locs hW => ?_)
                exact re_i hx hb hr hlocks hW (Option.some.inj hf) dX8_givenBy_77
              · rw [if_neg q9] at hf
                refine lv_tableOut (tgt := 78) hx hb dX8_givenBy_1 (by have z := And.intro (lv_neT q1 (a := (-1)) rfl) (And.intro (lv_neT q2 (a := 0) rfl) (And.intro (lv_neT q4 (a := 1) rfl) (And.intro (lv_neT q5 (a := 2) rfl) (And.intro (lv_neT q6 (a := 3) rfl) (And.intro (lv_neT q7 (a := 4) rfl) (lv_neT q9 (a := 5) rfl)))))); omega) (by decide) ?_
                refine lv_iload_n hx hb dX8_givenBy_78 rfl (lv_at hl 2 rfl) ?_
                exact re_i hx hb hr hlocks hW (Option.some.inj hf) dX8_givenBy_79
def f_X8_ends_j14 (σ14_ : ss_M) : Option (Int32 × ss_M) :=
  some ((1 : Int32), σ14_)
def f_X8_ends (p0 : Int32) (σ : ss_M) : Option (Int32 × ss_M) :=
  ss_bd (f_X8_in p0 (1 : Int32) (3 : Int32) σ) (fun r1 σ1 => if r1 = (0 : Int32) then (if p0 = (5 : Int32) then (f_X8_ends_j14 σ1) else (some ((0 : Int32), σ1))) else (f_X8_ends_j14 σ1))
def rm_X8_ends : Room := { frames := 2, cells := 0, slots := 0, locals := 100 }
theorem hd_X8_ends : yX8_ends.cls ≠ "java/lang/invoke/MethodHandle" ∧ yX8_ends.cls ≠ "java/lang/invoke/VarHandle" ∧ (parseMethodDescriptor yX8_ends.desc).map (fun d => d.parameters.length) = some 1 := by decide +kernel
set_option maxHeartbeats 4000000 in
set_option maxRecDepth 100000 in
theorem c_X8_ends (l : Launch) {D : va_G} {Y : Nat → ClassId} {A : ss_A} (hAD : AD 1 A) {p0 : Int32}  {r : Int32} {σ σ' : ss_M} (hf : f_X8_ends p0 σ = some (r, σ')) : Met l yX8_ends wsX8_ends rm_X8_ends (Pc0 1 D Y A σ [.int p0]) (Qi0 1 D Y A r σ') 0 0 (FA 1 A) := by
  rw [f_X8_ends] at hf
  refine Met0 (cc := cX8_ends) (maxL := 1) (ret := (some .boolean)) (own := RX8) (by decide +kernel) rfl hAD rfl (Nat.le_of_ble_eq_true rfl) ?_
  intro p e s m args below meth c S hr hlocks hW ls hl
  obtain ⟨hx, hb, hml, hown, hts⟩ := id S
  have hl : lv_has ls 1 [(0, .int p0)] := hl
  refine lv_iload_n hx hb dX8_ends_0 rfl (lv_at hl 0 rfl) ?_
  refine lv_iconst (v := (1 : Int32)) hx hb dX8_ends_1 (by decide) ?_
  refine lv_iconst (v := (3 : Int32)) hx hb dX8_ends_2 (by decide) ?_
  obtain ⟨r1, σ1, hf1, hf⟩ := ss_bd_some hf
  refine rt_i S (c_X8_in l hAD  hf1) (va_cwS 3 hts gX8_ends_X8_in rfl rfl rfl hd_X8_in ⟨(Nat.le_of_ble_eq_true rfl), (Nat.le_of_ble_eq_true rfl)⟩) hW rfl rfl hl.1 (Nat.le_of_ble_eq_true rfl) ⟨Nat.zero_le _, Nat.zero_le _⟩ dX8_ends_3 (fun H locs hW => ?_)
  have J14 : ∀ (σ14_ : ss_M) (H : Heap) (locs : List Loc) (ls : Array Slot), sW 1 D Y A σ14_ s s.heap H locs → lv_has ls 1 [] → f_X8_ends_j14 σ14_ = some (r, σ') → W p l e rm_X8_ends s m args below meth c H locs 0 0 (MQ below (Qi0 1 D Y A r σ') args s 0 0 (FA 1 A)) (F0 m 14 ls []) := by
    intro σ14_ H locs ls hW hl hf
    rw [f_X8_ends_j14] at hf
    refine lv_iconst (v := (1 : Int32)) hx hb dX8_ends_14 (by decide) ?_
    refine lv_goto (tgt := 19) hx hb dX8_ends_15 (by decide) ?_
    exact re_z hx hb hr hlocks hW (by decide) (Option.some.inj hf) dX8_ends_19
  refine lv_if_ne (tgt := 14) hx hb dX8_ends_6 (by decide) (fun q2 => ?_) (fun q2 => ?_)
  · rw [if_neg q2] at hf
    exact J14 σ1 _ _ _ hW (lv_sub hl [] rfl) hf
  · rw [if_pos q2] at hf
    refine lv_iload_n hx hb dX8_ends_9 rfl (lv_at hl 0 rfl) ?_
    refine lv_iconst (v := (5 : Int32)) hx hb dX8_ends_10 (by decide) ?_
    refine lv_icmp_ne (tgt := 18) hx hb dX8_ends_11 (by decide) (fun q3 => ?_) (fun q3 => ?_)
    · rw [if_neg q3] at hf
      refine lv_iconst (v := (0 : Int32)) hx hb dX8_ends_18 (by decide) ?_
      exact re_z hx hb hr hlocks hW (by decide) (Option.some.inj hf) dX8_ends_19
    · rw [if_pos q3] at hf
      exact J14 σ1 _ _ _ hW (lv_sub hl [] rfl) hf
def f_X8_dries_j28 (σ28_ : ss_M) : Option (Int32 × ss_M) :=
  some ((5 : Int32), σ28_)
def f_X8_dries (p0 : Int32) (σ : ss_M) : Option (Int32 × ss_M) :=
  if p0 = (0 : Int32) then (some ((9 : Int32), σ)) else (if p0 = (2 : Int32) then (some ((4 : Int32), σ)) else (if p0 = (4 : Int32) then (f_X8_dries_j28 σ) else (if p0 = (5 : Int32) then (f_X8_dries_j28 σ) else (some ((0 : Int32), σ)))))
def rm_X8_dries : Room := { frames := 0, cells := 0, slots := 0, locals := 0 }
theorem hd_X8_dries : yX8_dries.cls ≠ "java/lang/invoke/MethodHandle" ∧ yX8_dries.cls ≠ "java/lang/invoke/VarHandle" ∧ (parseMethodDescriptor yX8_dries.desc).map (fun d => d.parameters.length) = some 1 := by decide +kernel
set_option maxHeartbeats 4000000 in
set_option maxRecDepth 100000 in
theorem c_X8_dries (l : Launch) {D : va_G} {Y : Nat → ClassId} {A : ss_A} (hAD : AD 1 A) {p0 : Int32}  {r : Int32} {σ σ' : ss_M} (hf : f_X8_dries p0 σ = some (r, σ')) : Met l yX8_dries wsX8_dries rm_X8_dries (Pc0 1 D Y A σ [.int p0]) (Qi0 1 D Y A r σ') 0 0 (FA 1 A) := by
  rw [f_X8_dries] at hf
  refine Met0 (cc := cX8_dries) (maxL := 1) (ret := (some .int)) (own := RX8) (by decide +kernel) rfl hAD rfl (Nat.le_of_ble_eq_true rfl) ?_
  intro p e s m args below meth c S hr hlocks hW ls hl
  obtain ⟨hx, hb, hml, hown, hts⟩ := id S
  have hl : lv_has ls 1 [(0, .int p0)] := hl
  refine lv_iload_n hx hb dX8_dries_0 rfl (lv_at hl 0 rfl) ?_
  refine lv_if_ne (tgt := 9) hx hb dX8_dries_1 (by decide) (fun q1 => ?_) (fun q1 => ?_)
  · rw [if_neg q1] at hf
    refine lv_iload_n hx hb dX8_dries_9 rfl (lv_at hl 0 rfl) ?_
    refine lv_iconst (v := (2 : Int32)) hx hb dX8_dries_10 (by decide) ?_
    refine lv_icmp_ne (tgt := 18) hx hb dX8_dries_11 (by decide) (fun q2 => ?_) (fun q2 => ?_)
    · rw [if_neg q2] at hf
      refine lv_iload_n hx hb dX8_dries_18 rfl (lv_at hl 0 rfl) ?_
      refine lv_iconst (v := (4 : Int32)) hx hb dX8_dries_19 (by decide) ?_
      have J28 : ∀ (σ28_ : ss_M) (H : Heap) (locs : List Loc) (ls : Array Slot), sW 1 D Y A σ28_ s s.heap H locs → lv_has ls 1 [] → f_X8_dries_j28 σ28_ = some (r, σ') → W p l e rm_X8_dries s m args below meth c H locs 0 0 (MQ below (Qi0 1 D Y A r σ') args s 0 0 (FA 1 A)) (F0 m 28 ls []) := by
        intro σ28_ H locs ls hW hl hf
        rw [f_X8_dries_j28] at hf
        refine lv_iconst (v := (5 : Int32)) hx hb dX8_dries_28 (by decide) ?_
        refine lv_goto (tgt := 33) hx hb dX8_dries_29 (by decide) ?_
        exact re_i hx hb hr hlocks hW (Option.some.inj hf) dX8_dries_33
      refine lv_icmp_eq (tgt := 28) hx hb dX8_dries_20 (by decide) (fun q3 => ?_) (fun q3 => ?_)
      · rw [if_pos q3] at hf
        exact J28 σ _ _ _ hW (lv_sub hl [] rfl) hf
      · rw [if_neg q3] at hf
        refine lv_iload_n hx hb dX8_dries_23 rfl (lv_at hl 0 rfl) ?_
        refine lv_iconst (v := (5 : Int32)) hx hb dX8_dries_24 (by decide) ?_
        refine lv_icmp_ne (tgt := 32) hx hb dX8_dries_25 (by decide) (fun q4 => ?_) (fun q4 => ?_)
        · rw [if_neg q4] at hf
          refine lv_iconst (v := (0 : Int32)) hx hb dX8_dries_32 (by decide) ?_
          exact re_i hx hb hr hlocks hW (Option.some.inj hf) dX8_dries_33
        · rw [if_pos q4] at hf
          exact J28 σ _ _ _ hW (lv_sub hl [] rfl) hf
    · rw [if_pos q2] at hf
      refine lv_iconst (v := (4 : Int32)) hx hb dX8_dries_14 (by decide) ?_
      refine lv_goto (tgt := 33) hx hb dX8_dries_15 (by decide) ?_
      exact re_i hx hb hr hlocks hW (Option.some.inj hf) dX8_dries_33
  · rw [if_pos q1] at hf
    refine lv_bipush (v := (9 : Int32)) hx hb dX8_dries_4 (by decide) ?_
    refine lv_goto (tgt := 33) hx hb dX8_dries_6 (by decide) ?_
    exact re_i hx hb hr hlocks hW (Option.some.inj hf) dX8_dries_33
def f_X8_notes_j126 (σ126_ : ss_M) : Option ss_M :=
  some (sGu σ126_ 27 0 ((sG σ126_ 27 0) + (1 : Int32)))
def f_X8_notes_L81 (k81_126 : ss_M → Option ss_M) : Nat → Int32 → Int32 → ss_M → Option ss_M
  | 0, _, _, _ => none
  | n81 + 1, x81_1, x81_2, σ81_ => if (12 : Int32) ≤ x81_2 then (k81_126 σ81_) else (if gd x81_2 12 = true then (if gd ((x81_1 + (2 : Int32)) + x81_2) 208 = true then (if gd x81_2 12 = true then (if gd ((x81_1 + (14 : Int32)) + x81_2) 208 = true then (ss_let (sAu (sAu σ81_ 23 0 (upd (sA σ81_ 23 0) (((x81_1 + (2 : Int32)) + x81_2)).toNatClampNeg (sA σ81_ 18 0 (x81_2).toNatClampNeg))) 23 0 (upd (sA (sAu σ81_ 23 0 (upd (sA σ81_ 23 0) (((x81_1 + (2 : Int32)) + x81_2)).toNatClampNeg (sA σ81_ 18 0 (x81_2).toNatClampNeg))) 23 0) (((x81_1 + (14 : Int32)) + x81_2)).toNatClampNeg (sA (sAu σ81_ 23 0 (upd (sA σ81_ 23 0) (((x81_1 + (2 : Int32)) + x81_2)).toNatClampNeg (sA σ81_ 18 0 (x81_2).toNatClampNeg))) 19 0 (x81_2).toNatClampNeg))) (fun σm9 => (f_X8_notes_L81 k81_126 n81) x81_1 (x81_2 + (1 : Int32)) σm9)) else none) else none) else none) else none)
def f_X8_notes_j49 (σ49_ : ss_M) : Option ss_M :=
  if gd ((26 : Int32) * (sG σ49_ 27 0)) 208 = true then (if gd (((26 : Int32) * (sG σ49_ 27 0)) + (1 : Int32)) 208 = true then (ss_let (sAu (sAu σ49_ 23 0 (upd (sA σ49_ 23 0) (((26 : Int32) * (sG σ49_ 27 0))).toNatClampNeg (sG σ49_ 20 0))) 23 0 (upd (sA (sAu σ49_ 23 0 (upd (sA σ49_ 23 0) (((26 : Int32) * (sG σ49_ 27 0))).toNatClampNeg (sG σ49_ 20 0))) 23 0) ((((26 : Int32) * (sG σ49_ 27 0)) + (1 : Int32))).toNatClampNeg (sG (sAu σ49_ 23 0 (upd (sA σ49_ 23 0) (((26 : Int32) * (sG σ49_ 27 0))).toNatClampNeg (sG σ49_ 20 0))) 21 0))) (fun σm3 => f_X8_notes_L81 (f_X8_notes_j126) FU ((26 : Int32) * (sG σ49_ 27 0)) (0 : Int32) σm3)) else none) else none
def f_X8_notes_j39 (σ39_ : ss_M) : Option ss_M :=
  f_X8_notes_j49 (sGu σ39_ 27 0 ((sG σ39_ 27 0) - (1 : Int32)))
def f_X8_notes_L11 (k11_39 : ss_M → Option ss_M) : Nat → Int32 → ss_M → Option ss_M
  | 0, _, _ => none
  | n11 + 1, x11_1, σ11_ => if (182 : Int32) ≤ x11_1 then (k11_39 σ11_) else (if gd (x11_1 + (26 : Int32)) 208 = true then (if gd x11_1 208 = true then ((f_X8_notes_L11 k11_39 n11) (x11_1 + (1 : Int32)) (sAu σ11_ 23 0 (upd (sA σ11_ 23 0) (x11_1).toNatClampNeg (sA σ11_ 23 0 ((x11_1 + (26 : Int32))).toNatClampNeg)))) else none) else none)
def f_X8_notes (σ : ss_M) : Option ss_M :=
  if (sG σ 27 0) = (8 : Int32) then (f_X8_notes_L11 (f_X8_notes_j39) FU (0 : Int32) σ) else (f_X8_notes_j49 σ)
def rm_X8_notes : Room := { frames := 0, cells := 0, slots := 0, locals := 0 }
theorem hd_X8_notes : yX8_notes.cls = RX8 ∧ yX8_notes.cls ≠ "java/lang/invoke/MethodHandle" ∧ yX8_notes.cls ≠ "java/lang/invoke/VarHandle" ∧ (parseMethodDescriptor yX8_notes.desc).map (fun d => d.parameters.length) = some 0 := by decide +kernel
set_option maxHeartbeats 4000000 in
set_option maxRecDepth 100000 in
theorem c_X8_notes (l : Launch) {D : va_G} {Y : Nat → ClassId} {A : ss_A} (hAD : AD 1 A)   {σ σ' : ss_M} (hf : f_X8_notes σ = some σ') : Met l yX8_notes wsX8_notes rm_X8_notes (Pc0 1 D Y A σ [.ref (A 0 7 0)]) (Qv0 1 D Y A σ') 0 0 (FA 1 A) := by
  rw [f_X8_notes] at hf
  refine Met0 (cc := cX8_notes) (maxL := 3) (ret := none) (own := RX8) (by decide +kernel) rfl hAD rfl (Nat.le_of_ble_eq_true rfl) ?_
  intro p e s m args below meth c S hr hlocks hW ls hl
  obtain ⟨hx, hb, hml, hown, hts⟩ := id S
  have iX8 : ∀ q ∈ wsX80, q ∈ wsX8_notes := fun q h => List.mem_cons_of_mem _ (List.mem_append_right _ (h))
  have hl : lv_has ls 3 [(0, .ref (A 0 7 0))] := hl
  refine lv_aload_n hx hb dX8_notes_0 rfl (lv_at hl 0 rfl) ?_
  refine gf_X8_undoMany hx hb hts hown hW (kS_in (by decide)) iX8 (List.mem_of_getElem? (i := 1) rfl) dX8_notes_1 ?_
  refine lv_bipush (v := (8 : Int32)) hx hb dX8_notes_4 (by decide) ?_
  have J49 : ∀ (σ49_ : ss_M) (H : Heap) (locs : List Loc) (ls : Array Slot), sW 1 D Y A σ49_ s s.heap H locs → lv_has ls 3 [(0, .ref (A 0 7 0))] → f_X8_notes_j49 σ49_ = some σ' → W p l e rm_X8_notes s m args below meth c H locs 0 0 (MQ below (Qv0 1 D Y A σ') args s 0 0 (FA 1 A)) (F0 m 49 ls []) := by
    intro σ49_ H locs ls hW hl hf
    rw [f_X8_notes_j49] at hf
    refine lv_bipush (v := (26 : Int32)) hx hb dX8_notes_49 (by decide) ?_
    refine lv_aload_n hx hb dX8_notes_51 rfl (lv_at hl 0 rfl) ?_
    refine gf_X8_undoMany hx hb hts hown hW (kS_in (by decide)) iX8 (List.mem_of_getElem? (i := 1) rfl) dX8_notes_52 ?_
    refine lv_imul hx hb dX8_notes_55 ?_
    refine lv_istore_n (lv' := [(1, .int ((26 : Int32) * (sG σ49_ 27 0))), (0, .ref (A 0 7 0))]) hx hb dX8_notes_56 rfl hl (by decide) rfl (fun ls hl => ?_)
    refine lv_aload_n hx hb dX8_notes_57 rfl (lv_at hl 1 rfl) ?_
    refine gf_X8_ahead hx hb hts hown hW (kS_in (by decide)) iX8 (List.mem_of_getElem? (i := 2) rfl) dX8_notes_58 ?_
    refine lv_iload_n hx hb dX8_notes_61 rfl (lv_at hl 0 rfl) ?_
    refine lv_aload_n hx hb dX8_notes_62 rfl (lv_at hl 1 rfl) ?_
    refine gf_X8_purse hx hb hts hown hW (kS_in (by decide)) iX8 (List.mem_of_getElem? (i := 3) rfl) dX8_notes_63 ?_
    obtain ⟨g1, hf⟩ := ss_if hf
    refine rs_i hx hb hW (kS_in (by decide)) g1 dX8_notes_66 (fun H locs hW => ?_)
    refine lv_aload_n hx hb dX8_notes_67 rfl (lv_at hl 1 rfl) ?_
    refine gf_X8_ahead hx hb hts hown hW (kS_in (by decide)) iX8 (List.mem_of_getElem? (i := 2) rfl) dX8_notes_68 ?_
    refine lv_iload_n hx hb dX8_notes_71 rfl (lv_at hl 0 rfl) ?_
    refine lv_iconst (v := (1 : Int32)) hx hb dX8_notes_72 (by decide) ?_
    refine lv_iadd hx hb dX8_notes_73 ?_
    refine lv_aload_n hx hb dX8_notes_74 rfl (lv_at hl 1 rfl) ?_
    refine gf_X8_week hx hb hts hown hW (kS_in (by decide)) iX8 (List.mem_of_getElem? (i := 4) rfl) dX8_notes_75 ?_
    obtain ⟨g2, hf⟩ := ss_if hf
    refine rs_i hx hb hW (kS_in (by decide)) g2 dX8_notes_78 (fun H locs hW => ?_)
    obtain ⟨σm3, eσm3, hf⟩ := ss_let_some hf
    rw [← eσm3] at hW
    refine lv_iconst (v := (0 : Int32)) hx hb dX8_notes_79 (by decide) ?_
    refine lv_istore_n (lv' := [(2, .int (0 : Int32)), (1, .int ((26 : Int32) * (sG σ49_ 27 0))), (0, .ref (A 0 7 0))]) hx hb dX8_notes_80 rfl hl (by decide) rfl (fun ls hl => ?_)
    have J126 : ∀ (σ126_ : ss_M) (H : Heap) (locs : List Loc) (ls : Array Slot), sW 1 D Y A σ126_ s s.heap H locs → lv_has ls 3 [(0, .ref (A 0 7 0))] → f_X8_notes_j126 σ126_ = some σ' → W p l e rm_X8_notes s m args below meth c H locs 0 0 (MQ below (Qv0 1 D Y A σ') args s 0 0 (FA 1 A)) (F0 m 126 ls []) := by
      intro σ126_ H locs ls hW hl hf
      rw [f_X8_notes_j126] at hf
      refine lv_aload_n hx hb dX8_notes_126 rfl (lv_at hl 0 rfl) ?_
      refine lv_dup hx hb dX8_notes_127 rfl ?_
      refine gf_X8_undoMany hx hb hts hown hW (kS_in (by decide)) iX8 (List.mem_of_getElem? (i := 1) rfl) dX8_notes_128 ?_
      refine lv_iconst (v := (1 : Int32)) hx hb dX8_notes_131 (by decide) ?_
      refine lv_iadd hx hb dX8_notes_132 ?_
      refine pf_X8_undoMany hx hb hts hown hW (kS_in (by decide)) iX8 (List.mem_of_getElem? (i := 1) rfl) dX8_notes_133 (fun H locs hW => ?_)
      exact re_v hx hb hr hlocks hW (Option.some.inj hf) dX8_notes_136
    have L81 : ∀ (n81 : Nat), ∀ (x81_1 : Int32) (x81_2 : Int32) (σ81_ : ss_M) (H : Heap) (locs : List Loc) (ls : Array Slot), sW 1 D Y A σ81_ s s.heap H locs → lv_has ls 3 [(0, .ref (A 0 7 0)), (1, .int x81_1), (2, .int x81_2)] → f_X8_notes_L81 (f_X8_notes_j126) n81 x81_1 x81_2 σ81_ = some σ' → W p l e rm_X8_notes s m args below meth c H locs 0 0 (MQ below (Qv0 1 D Y A σ') args s 0 0 (FA 1 A)) (F0 m 81 ls []) := by
      intro n81
      induction n81 with
      | zero =>
        intro x81_1 x81_2 σ81_ H locs ls hW hl hf
        rw [f_X8_notes_L81] at hf
        cases hf
      | succ n81 ih81 =>
        intro x81_1 x81_2 σ81_ H locs ls hW hl hf
        rw [f_X8_notes_L81] at hf
        refine lv_iload_n hx hb dX8_notes_81 rfl (lv_at hl 2 rfl) ?_
        refine lv_bipush (v := (12 : Int32)) hx hb dX8_notes_82 (by decide) ?_
        refine lv_icmp_ge (tgt := 126) hx hb dX8_notes_84 (by decide) (fun q4 => ?_) (fun q4 => ?_)
        · rw [if_pos q4] at hf
          exact J126 σ81_ _ _ _ hW (lv_sub hl [0] rfl) hf
        · rw [if_neg q4] at hf
          refine lv_aload_n hx hb dX8_notes_87 rfl (lv_at hl 0 rfl) ?_
          refine gf_X8_ahead hx hb hts hown hW (kS_in (by decide)) iX8 (List.mem_of_getElem? (i := 2) rfl) dX8_notes_88 ?_
          refine lv_iload_n hx hb dX8_notes_91 rfl (lv_at hl 1 rfl) ?_
          refine lv_iconst (v := (2 : Int32)) hx hb dX8_notes_92 (by decide) ?_
          refine lv_iadd hx hb dX8_notes_93 ?_
          refine lv_iload_n hx hb dX8_notes_94 rfl (lv_at hl 2 rfl) ?_
          refine lv_iadd hx hb dX8_notes_95 ?_
          refine lv_aload_n hx hb dX8_notes_96 rfl (lv_at hl 0 rfl) ?_
          refine gf_X8_kinds hx hb hts hown hW (kS_in (by decide)) iX8 (List.mem_of_getElem? (i := 5) rfl) dX8_notes_97 ?_
          refine lv_iload_n hx hb dX8_notes_100 rfl (lv_at hl 2 rfl) ?_
          obtain ⟨g5, hf⟩ := ss_if hf
          refine ra_i hx hb hW (kS_in (by decide)) g5 dX8_notes_101 ?_
          obtain ⟨g6, hf⟩ := ss_if hf
          refine rs_i hx hb hW (kS_in (by decide)) g6 dX8_notes_102 (fun H locs hW => ?_)
          refine lv_aload_n hx hb dX8_notes_103 rfl (lv_at hl 0 rfl) ?_
          refine gf_X8_ahead hx hb hts hown hW (kS_in (by decide)) iX8 (List.mem_of_getElem? (i := 2) rfl) dX8_notes_104 ?_
          refine lv_iload_n hx hb dX8_notes_107 rfl (lv_at hl 1 rfl) ?_
          refine lv_bipush (v := (14 : Int32)) hx hb dX8_notes_108 (by decide) ?_
          refine lv_iadd hx hb dX8_notes_110 ?_
          refine lv_iload_n hx hb dX8_notes_111 rfl (lv_at hl 2 rfl) ?_
          refine lv_iadd hx hb dX8_notes_112 ?_
          refine lv_aload_n hx hb dX8_notes_113 rfl (lv_at hl 0 rfl) ?_
          refine gf_X8_reads hx hb hts hown hW (kS_in (by decide)) iX8 (List.mem_of_getElem? (i := 6) rfl) dX8_notes_114 ?_
          refine lv_iload_n hx hb dX8_notes_117 rfl (lv_at hl 2 rfl) ?_
          obtain ⟨g7, hf⟩ := ss_if hf
          refine ra_i hx hb hW (kS_in (by decide)) g7 dX8_notes_118 ?_
          obtain ⟨g8, hf⟩ := ss_if hf
          refine rs_i hx hb hW (kS_in (by decide)) g8 dX8_notes_119 (fun H locs hW => ?_)
          obtain ⟨σm9, eσm9, hf⟩ := ss_let_some hf
          rw [← eσm9] at hW
          refine lv_iinc (v := (x81_2 + (1 : Int32))) (lv' := [(2, .int (x81_2 + (1 : Int32))), (0, .ref (A 0 7 0)), (1, .int x81_1)]) hx hb dX8_notes_120 hl (k := 2) rfl rfl (by decide) rfl (fun ls hl => ?_)
          refine lv_goto (tgt := 81) hx hb dX8_notes_123 (by decide) ?_
          exact ih81 x81_1 (x81_2 + (1 : Int32)) σm9 _ _ _ hW (lv_sub hl [1, 2, 0] rfl) hf
    exact L81 FU ((26 : Int32) * (sG σ49_ 27 0)) (0 : Int32) σm3 _ _ _ hW (lv_sub hl [2, 1, 0] rfl) hf
  refine lv_icmp_ne (tgt := 49) hx hb dX8_notes_6 (by decide) (fun q10 => ?_) (fun q10 => ?_)
  · rw [if_neg q10] at hf
    exact J49 σ _ _ _ hW (lv_sub hl [0] rfl) hf
  · rw [if_pos q10] at hf
    refine lv_iconst (v := (0 : Int32)) hx hb dX8_notes_9 (by decide) ?_
    refine lv_istore_n (lv' := [(1, .int (0 : Int32)), (0, .ref (A 0 7 0))]) hx hb dX8_notes_10 rfl hl (by decide) rfl (fun ls hl => ?_)
    have J39 : ∀ (σ39_ : ss_M) (H : Heap) (locs : List Loc) (ls : Array Slot), sW 1 D Y A σ39_ s s.heap H locs → lv_has ls 3 [(0, .ref (A 0 7 0))] → f_X8_notes_j39 σ39_ = some σ' → W p l e rm_X8_notes s m args below meth c H locs 0 0 (MQ below (Qv0 1 D Y A σ') args s 0 0 (FA 1 A)) (F0 m 39 ls []) := by
      intro σ39_ H locs ls hW hl hf
      rw [f_X8_notes_j39] at hf
      refine lv_aload_n hx hb dX8_notes_39 rfl (lv_at hl 0 rfl) ?_
      refine lv_dup hx hb dX8_notes_40 rfl ?_
      refine gf_X8_undoMany hx hb hts hown hW (kS_in (by decide)) iX8 (List.mem_of_getElem? (i := 1) rfl) dX8_notes_41 ?_
      refine lv_iconst (v := (1 : Int32)) hx hb dX8_notes_44 (by decide) ?_
      refine lv_isub hx hb dX8_notes_45 ?_
      refine pf_X8_undoMany hx hb hts hown hW (kS_in (by decide)) iX8 (List.mem_of_getElem? (i := 1) rfl) dX8_notes_46 (fun H locs hW => ?_)
      exact J49 (sGu σ39_ 27 0 ((sG σ39_ 27 0) - (1 : Int32))) _ _ _ hW (lv_sub hl [0] rfl) hf
    have L11 : ∀ (n11 : Nat), ∀ (x11_1 : Int32) (σ11_ : ss_M) (H : Heap) (locs : List Loc) (ls : Array Slot), sW 1 D Y A σ11_ s s.heap H locs → lv_has ls 3 [(0, .ref (A 0 7 0)), (1, .int x11_1)] → f_X8_notes_L11 (f_X8_notes_j39) n11 x11_1 σ11_ = some σ' → W p l e rm_X8_notes s m args below meth c H locs 0 0 (MQ below (Qv0 1 D Y A σ') args s 0 0 (FA 1 A)) (F0 m 11 ls []) := by
      intro n11
      induction n11 with
      | zero =>
        intro x11_1 σ11_ H locs ls hW hl hf
        rw [f_X8_notes_L11] at hf
        cases hf
      | succ n11 ih11 =>
        intro x11_1 σ11_ H locs ls hW hl hf
        rw [f_X8_notes_L11] at hf
        refine lv_iload_n hx hb dX8_notes_11 rfl (lv_at hl 1 rfl) ?_
        refine lv_sipush (v := (182 : Int32)) hx hb dX8_notes_12 (by decide) ?_
        refine lv_icmp_ge (tgt := 39) hx hb dX8_notes_15 (by decide) (fun q11 => ?_) (fun q11 => ?_)
        · rw [if_pos q11] at hf
          exact J39 σ11_ _ _ _ hW (lv_sub hl [0] rfl) hf
        · rw [if_neg q11] at hf
          refine lv_aload_n hx hb dX8_notes_18 rfl (lv_at hl 0 rfl) ?_
          refine gf_X8_ahead hx hb hts hown hW (kS_in (by decide)) iX8 (List.mem_of_getElem? (i := 2) rfl) dX8_notes_19 ?_
          refine lv_iload_n hx hb dX8_notes_22 rfl (lv_at hl 1 rfl) ?_
          refine lv_aload_n hx hb dX8_notes_23 rfl (lv_at hl 0 rfl) ?_
          refine gf_X8_ahead hx hb hts hown hW (kS_in (by decide)) iX8 (List.mem_of_getElem? (i := 2) rfl) dX8_notes_24 ?_
          refine lv_iload_n hx hb dX8_notes_27 rfl (lv_at hl 1 rfl) ?_
          refine lv_bipush (v := (26 : Int32)) hx hb dX8_notes_28 (by decide) ?_
          refine lv_iadd hx hb dX8_notes_30 ?_
          obtain ⟨g12, hf⟩ := ss_if hf
          refine ra_i hx hb hW (kS_in (by decide)) g12 dX8_notes_31 ?_
          obtain ⟨g13, hf⟩ := ss_if hf
          refine rs_i hx hb hW (kS_in (by decide)) g13 dX8_notes_32 (fun H locs hW => ?_)
          refine lv_iinc (v := (x11_1 + (1 : Int32))) (lv' := [(1, .int (x11_1 + (1 : Int32))), (0, .ref (A 0 7 0))]) hx hb dX8_notes_33 hl (k := 1) rfl rfl (by decide) rfl (fun ls hl => ?_)
          refine lv_goto (tgt := 11) hx hb dX8_notes_36 (by decide) ?_
          exact ih11 (x11_1 + (1 : Int32)) (sAu σ11_ 23 0 (upd (sA σ11_ 23 0) (x11_1).toNatClampNeg (sA σ11_ 23 0 ((x11_1 + (26 : Int32))).toNatClampNeg))) _ _ _ hW (lv_sub hl [1, 0] rfl) hf
    exact L11 FU (0 : Int32) σ _ _ _ hW (lv_sub hl [1, 0] rfl) hf
def f_X8_buy_j15 (σ15_ : ss_M) : Option (Int32 × ss_M) :=
  ss_bd (f_X8_bad σ15_) (fun r2 σ2 => some (r2, σ2))
def f_X8_buy_j44 (σ44_ : ss_M) : Option (Int32 × ss_M) :=
  ss_bd (f_X8_no σ44_) (fun r8 σ8 => some (r8, σ8))
def f_X8_buy (p0 : Int32) (p1 : Int32) (σ : ss_M) : Option (Int32 × ss_M) :=
  ss_bd (f_X8_isPiece p0 σ) (fun r1 σ1 => if r1 = (0 : Int32) then (f_X8_buy_j15 σ1) else (ss_bd (f_X8_isKind p1 σ1) (fun r4 σ4 => if r4 = (0 : Int32) then (f_X8_buy_j15 σ4) else (ss_bd (f_X8_costOf p1 σ4) (fun r6 σ6 => if gd p0 12 = true then (if (sA σ6 18 0 (p0).toNatClampNeg) = (-1 : Int32) then (if r6 ≤ (sG σ6 20 0) then (Option.bind (f_X8_notes σ6) (fun σ11 => Option.bind (f_X8_mark p0 p1 σ11) (fun σ12 => some (r6, (sGu σ12 20 0 ((sG σ12 20 0) - r6)))))) else (f_X8_buy_j44 σ6)) else (f_X8_buy_j44 σ6)) else none)))))
def rm_X8_buy : Room := { frames := 4, cells := 0, slots := 0, locals := 200 }
theorem hd_X8_buy : yX8_buy.cls = RX8 ∧ yX8_buy.cls ≠ "java/lang/invoke/MethodHandle" ∧ yX8_buy.cls ≠ "java/lang/invoke/VarHandle" ∧ (parseMethodDescriptor yX8_buy.desc).map (fun d => d.parameters.length) = some 2 := by decide +kernel
set_option maxHeartbeats 4000000 in
set_option maxRecDepth 100000 in
theorem c_X8_buy (l : Launch) {D : va_G} {Y : Nat → ClassId} {A : ss_A} (hAD : AD 1 A) {p0 : Int32} {p1 : Int32}  {r : Int32} {σ σ' : ss_M} (hf : f_X8_buy p0 p1 σ = some (r, σ')) : Met l yX8_buy wsX8_buy rm_X8_buy (Pc0 1 D Y A σ [.ref (A 0 7 0), .int p0, .int p1]) (Qi0 1 D Y A r σ') 0 0 (FA 1 A) := by
  rw [f_X8_buy] at hf
  refine Met0 (cc := cX8_buy) (maxL := 4) (ret := (some .int)) (own := RX8) (by decide +kernel) rfl hAD rfl (Nat.le_of_ble_eq_true rfl) ?_
  intro p e s m args below meth c S hr hlocks hW ls hl
  obtain ⟨hx, hb, hml, hown, hts⟩ := id S
  have iX8 : ∀ q ∈ wsX80, q ∈ wsX8_buy := fun q h => List.mem_cons_of_mem _ (List.mem_append_right _ (h))
  have hl : lv_has ls 4 [(0, .ref (A 0 7 0)), (1, .int p0), (2, .int p1)] := hl
  refine lv_aload_n hx hb dX8_buy_0 rfl (lv_at hl 0 rfl) ?_
  refine lv_iload_n hx hb dX8_buy_1 rfl (lv_at hl 1 rfl) ?_
  obtain ⟨r1, σ1, hf1, hf⟩ := ss_bd_some hf
  refine rv_i S (c_X8_isPiece l hAD  hf1) (cwV 1 hts gX8_buy_X8_isPiece rfl rfl rfl hd_X8_isPiece ⟨(Nat.le_of_ble_eq_true rfl), (Nat.le_of_ble_eq_true rfl)⟩) hW (kS_in (by decide)) rfl rfl rfl hl.1 (Nat.le_of_ble_eq_true rfl) ⟨Nat.zero_le _, Nat.zero_le _⟩ dX8_buy_2 (fun H locs hW => ?_)
  have J15 : ∀ (σ15_ : ss_M) (H : Heap) (locs : List Loc) (ls : Array Slot), sW 1 D Y A σ15_ s s.heap H locs → lv_has ls 4 [(0, .ref (A 0 7 0))] → f_X8_buy_j15 σ15_ = some (r, σ') → W p l e rm_X8_buy s m args below meth c H locs 0 0 (MQ below (Qi0 1 D Y A r σ') args s 0 0 (FA 1 A)) (F0 m 15 ls []) := by
    intro σ15_ H locs ls hW hl hf
    rw [f_X8_buy_j15] at hf
    refine lv_aload_n hx hb dX8_buy_15 rfl (lv_at hl 0 rfl) ?_
    obtain ⟨r2, σ2, hf2, hf⟩ := ss_bd_some hf
    refine rv_i S (c_X8_bad l hAD  hf2) (cwV 0 hts gX8_buy_X8_bad rfl rfl rfl hd_X8_bad ⟨(Nat.le_of_ble_eq_true rfl), (Nat.le_of_ble_eq_true rfl)⟩) hW (kS_in (by decide)) rfl rfl rfl hl.1 (Nat.le_of_ble_eq_true rfl) ⟨Nat.zero_le _, Nat.zero_le _⟩ dX8_buy_16 (fun H locs hW => ?_)
    exact re_i hx hb hr hlocks hW (Option.some.inj hf) dX8_buy_19
  refine lv_if_eq (tgt := 15) hx hb dX8_buy_5 (by decide) (fun q3 => ?_) (fun q3 => ?_)
  · rw [if_pos q3] at hf
    exact J15 σ1 _ _ _ hW (lv_sub hl [0] rfl) hf
  · rw [if_neg q3] at hf
    refine lv_iload_n hx hb dX8_buy_8 rfl (lv_at hl 2 rfl) ?_
    obtain ⟨r4, σ4, hf4, hf⟩ := ss_bd_some hf
    refine rt_i S (c_X8_isKind l hAD  hf4) (va_cwS 1 hts gX8_buy_X8_isKind rfl rfl rfl hd_X8_isKind ⟨(Nat.le_of_ble_eq_true rfl), (Nat.le_of_ble_eq_true rfl)⟩) hW rfl rfl hl.1 (Nat.le_of_ble_eq_true rfl) ⟨Nat.zero_le _, Nat.zero_le _⟩ dX8_buy_9 (fun H locs hW => ?_)
    refine lv_if_ne (tgt := 20) hx hb dX8_buy_12 (by decide) (fun q5 => ?_) (fun q5 => ?_)
    · rw [if_neg q5] at hf
      refine lv_aload_n hx hb dX8_buy_20 rfl (lv_at hl 0 rfl) ?_
      refine lv_iload_n hx hb dX8_buy_21 rfl (lv_at hl 2 rfl) ?_
      obtain ⟨r6, σ6, hf6, hf⟩ := ss_bd_some hf
      refine rv_i S (c_X8_costOf l hAD  hf6) (cwV 1 hts gX8_buy_X8_costOf rfl rfl rfl hd_X8_costOf ⟨(Nat.le_of_ble_eq_true rfl), (Nat.le_of_ble_eq_true rfl)⟩) hW (kS_in (by decide)) rfl rfl rfl hl.1 (Nat.le_of_ble_eq_true rfl) ⟨Nat.zero_le _, Nat.zero_le _⟩ dX8_buy_22 (fun H locs hW => ?_)
      refine lv_istore_n (lv' := [(3, .int r6), (0, .ref (A 0 7 0)), (1, .int p0), (2, .int p1)]) hx hb dX8_buy_25 rfl hl (by decide) rfl (fun ls hl => ?_)
      refine lv_aload_n hx hb dX8_buy_26 rfl (lv_at hl 1 rfl) ?_
      refine gf_X8_kinds hx hb hts hown hW (kS_in (by decide)) iX8 (List.mem_of_getElem? (i := 1) rfl) dX8_buy_27 ?_
      refine lv_iload_n hx hb dX8_buy_30 rfl (lv_at hl 2 rfl) ?_
      obtain ⟨g7, hf⟩ := ss_if hf
      refine ra_i hx hb hW (kS_in (by decide)) g7 dX8_buy_31 ?_
      refine lv_iconst (v := (-1 : Int32)) hx hb dX8_buy_32 (by decide) ?_
      have J44 : ∀ (σ44_ : ss_M) (H : Heap) (locs : List Loc) (ls : Array Slot), sW 1 D Y A σ44_ s s.heap H locs → lv_has ls 4 [(0, .ref (A 0 7 0))] → f_X8_buy_j44 σ44_ = some (r, σ') → W p l e rm_X8_buy s m args below meth c H locs 0 0 (MQ below (Qi0 1 D Y A r σ') args s 0 0 (FA 1 A)) (F0 m 44 ls []) := by
        intro σ44_ H locs ls hW hl hf
        rw [f_X8_buy_j44] at hf
        refine lv_aload_n hx hb dX8_buy_44 rfl (lv_at hl 0 rfl) ?_
        obtain ⟨r8, σ8, hf8, hf⟩ := ss_bd_some hf
        refine rv_i S (c_X8_no l hAD  hf8) (cwV 0 hts gX8_buy_X8_no rfl rfl rfl hd_X8_no ⟨(Nat.le_of_ble_eq_true rfl), (Nat.le_of_ble_eq_true rfl)⟩) hW (kS_in (by decide)) rfl rfl rfl hl.1 (Nat.le_of_ble_eq_true rfl) ⟨Nat.zero_le _, Nat.zero_le _⟩ dX8_buy_45 (fun H locs hW => ?_)
        exact re_i hx hb hr hlocks hW (Option.some.inj hf) dX8_buy_48
      refine lv_icmp_ne (tgt := 44) hx hb dX8_buy_33 (by decide) (fun q9 => ?_) (fun q9 => ?_)
      · rw [if_neg q9] at hf
        exact J44 σ6 _ _ _ hW (lv_sub hl [1] rfl) hf
      · rw [if_pos q9] at hf
        refine lv_aload_n hx hb dX8_buy_36 rfl (lv_at hl 1 rfl) ?_
        refine gf_X8_purse hx hb hts hown hW (kS_in (by decide)) iX8 (List.mem_of_getElem? (i := 2) rfl) dX8_buy_37 ?_
        refine lv_iload_n hx hb dX8_buy_40 rfl (lv_at hl 0 rfl) ?_
        refine lv_icmp_ge (tgt := 49) hx hb dX8_buy_41 (by decide) (fun q10 => ?_) (fun q10 => ?_)
        · rw [if_pos q10] at hf
          refine lv_aload_n hx hb dX8_buy_49 rfl (lv_at hl 1 rfl) ?_
          obtain ⟨σ11, hf11, hf⟩ := ss_bind hf
          refine rv_v S (c_X8_notes l hAD  hf11) (cwV 0 hts gX8_buy_X8_notes rfl rfl rfl hd_X8_notes ⟨(Nat.le_of_ble_eq_true rfl), (Nat.le_of_ble_eq_true rfl)⟩) hW (kS_in (by decide)) rfl rfl rfl hl.1 (Nat.le_of_ble_eq_true rfl) ⟨Nat.zero_le _, Nat.zero_le _⟩ dX8_buy_50 (fun H locs hW => ?_)
          refine lv_aload_n hx hb dX8_buy_53 rfl (lv_at hl 1 rfl) ?_
          refine lv_iload_n hx hb dX8_buy_54 rfl (lv_at hl 2 rfl) ?_
          refine lv_iload_n hx hb dX8_buy_55 rfl (lv_at hl 3 rfl) ?_
          obtain ⟨σ12, hf12, hf⟩ := ss_bind hf
          refine rv_v S (c_X8_mark l hAD  hf12) (cwV 2 hts gX8_buy_X8_mark rfl rfl rfl hd_X8_mark ⟨(Nat.le_of_ble_eq_true rfl), (Nat.le_of_ble_eq_true rfl)⟩) hW (kS_in (by decide)) rfl rfl rfl hl.1 (Nat.le_of_ble_eq_true rfl) ⟨Nat.zero_le _, Nat.zero_le _⟩ dX8_buy_56 (fun H locs hW => ?_)
          refine lv_aload_n hx hb dX8_buy_59 rfl (lv_at hl 1 rfl) ?_
          refine lv_dup hx hb dX8_buy_60 rfl ?_
          refine gf_X8_purse hx hb hts hown hW (kS_in (by decide)) iX8 (List.mem_of_getElem? (i := 2) rfl) dX8_buy_61 ?_
          refine lv_iload_n hx hb dX8_buy_64 rfl (lv_at hl 0 rfl) ?_
          refine lv_isub hx hb dX8_buy_65 ?_
          refine pf_X8_purse hx hb hts hown hW (kS_in (by decide)) iX8 (List.mem_of_getElem? (i := 2) rfl) dX8_buy_66 (fun H locs hW => ?_)
          refine lv_iload_n hx hb dX8_buy_69 rfl (lv_at hl 0 rfl) ?_
          exact re_i hx hb hr hlocks hW (Option.some.inj hf) dX8_buy_70
        · rw [if_neg q10] at hf
          exact J44 σ6 _ _ _ hW (lv_sub hl [1] rfl) hf
    · rw [if_pos q5] at hf
      exact J15 σ4 _ _ _ hW (lv_sub hl [0] rfl) hf
def f_X8_sell (p0 : Int32) (σ : ss_M) : Option (Int32 × ss_M) :=
  ss_bd (f_X8_isPiece p0 σ) (fun r1 σ1 => if r1 = (0 : Int32) then (ss_bd (f_X8_bad σ1) (fun r11 σ11 => some (r11, σ11))) else (if gd p0 12 = true then (if (sA σ1 18 0 (p0).toNatClampNeg) = (-1 : Int32) then (ss_bd (f_X8_no σ1) (fun r10 σ10 => some (r10, σ10))) else (Option.bind (f_X8_notes σ1) (fun σ5 => if gd p0 12 = true then (ss_bd (f_X8_costOf (sA σ5 18 0 (p0).toNatClampNeg) σ5) (fun r7 σ7 => Option.bind (f_X8_mark p0 (-1 : Int32) σ7) (fun σ8 => ss_bd (f_X8_lesser (999 : Int32) ((sG σ8 20 0) + (r7 / (2 : Int32))) σ8) (fun r9 σ9 => some ((r7 / (2 : Int32)), (sGu σ9 20 0 r9)))))) else none))) else none))
def rm_X8_sell : Room := { frames := 4, cells := 0, slots := 0, locals := 200 }
theorem hd_X8_sell : yX8_sell.cls = RX8 ∧ yX8_sell.cls ≠ "java/lang/invoke/MethodHandle" ∧ yX8_sell.cls ≠ "java/lang/invoke/VarHandle" ∧ (parseMethodDescriptor yX8_sell.desc).map (fun d => d.parameters.length) = some 1 := by decide +kernel
set_option maxHeartbeats 4000000 in
set_option maxRecDepth 100000 in
theorem c_X8_sell (l : Launch) {D : va_G} {Y : Nat → ClassId} {A : ss_A} (hAD : AD 1 A) {p0 : Int32}  {r : Int32} {σ σ' : ss_M} (hf : f_X8_sell p0 σ = some (r, σ')) : Met l yX8_sell wsX8_sell rm_X8_sell (Pc0 1 D Y A σ [.ref (A 0 7 0), .int p0]) (Qi0 1 D Y A r σ') 0 0 (FA 1 A) := by
  rw [f_X8_sell] at hf
  refine Met0 (cc := cX8_sell) (maxL := 3) (ret := (some .int)) (own := RX8) (by decide +kernel) rfl hAD rfl (Nat.le_of_ble_eq_true rfl) ?_
  intro p e s m args below meth c S hr hlocks hW ls hl
  obtain ⟨hx, hb, hml, hown, hts⟩ := id S
  have iX8 : ∀ q ∈ wsX80, q ∈ wsX8_sell := fun q h => List.mem_cons_of_mem _ (List.mem_append_right _ (h))
  have hl : lv_has ls 3 [(0, .ref (A 0 7 0)), (1, .int p0)] := hl
  refine lv_aload_n hx hb dX8_sell_0 rfl (lv_at hl 0 rfl) ?_
  refine lv_iload_n hx hb dX8_sell_1 rfl (lv_at hl 1 rfl) ?_
  obtain ⟨r1, σ1, hf1, hf⟩ := ss_bd_some hf
  refine rv_i S (c_X8_isPiece l hAD  hf1) (cwV 1 hts gX8_sell_X8_isPiece rfl rfl rfl hd_X8_isPiece ⟨(Nat.le_of_ble_eq_true rfl), (Nat.le_of_ble_eq_true rfl)⟩) hW (kS_in (by decide)) rfl rfl rfl hl.1 (Nat.le_of_ble_eq_true rfl) ⟨Nat.zero_le _, Nat.zero_le _⟩ dX8_sell_2 (fun H locs hW => ?_)
  refine lv_if_ne (tgt := 13) hx hb dX8_sell_5 (by decide) (fun q2 => ?_) (fun q2 => ?_)
  · rw [if_neg q2] at hf
    refine lv_aload_n hx hb dX8_sell_13 rfl (lv_at hl 0 rfl) ?_
    refine gf_X8_kinds hx hb hts hown hW (kS_in (by decide)) iX8 (List.mem_of_getElem? (i := 1) rfl) dX8_sell_14 ?_
    refine lv_iload_n hx hb dX8_sell_17 rfl (lv_at hl 1 rfl) ?_
    obtain ⟨g3, hf⟩ := ss_if hf
    refine ra_i hx hb hW (kS_in (by decide)) g3 dX8_sell_18 ?_
    refine lv_iconst (v := (-1 : Int32)) hx hb dX8_sell_19 (by decide) ?_
    refine lv_icmp_ne (tgt := 28) hx hb dX8_sell_20 (by decide) (fun q4 => ?_) (fun q4 => ?_)
    · rw [if_neg q4] at hf
      refine lv_aload_n hx hb dX8_sell_28 rfl (lv_at hl 0 rfl) ?_
      obtain ⟨σ5, hf5, hf⟩ := ss_bind hf
      refine rv_v S (c_X8_notes l hAD  hf5) (cwV 0 hts gX8_sell_X8_notes rfl rfl rfl hd_X8_notes ⟨(Nat.le_of_ble_eq_true rfl), (Nat.le_of_ble_eq_true rfl)⟩) hW (kS_in (by decide)) rfl rfl rfl hl.1 (Nat.le_of_ble_eq_true rfl) ⟨Nat.zero_le _, Nat.zero_le _⟩ dX8_sell_29 (fun H locs hW => ?_)
      refine lv_aload_n hx hb dX8_sell_32 rfl (lv_at hl 0 rfl) ?_
      refine lv_aload_n hx hb dX8_sell_33 rfl (lv_at hl 0 rfl) ?_
      refine gf_X8_kinds hx hb hts hown hW (kS_in (by decide)) iX8 (List.mem_of_getElem? (i := 1) rfl) dX8_sell_34 ?_
      refine lv_iload_n hx hb dX8_sell_37 rfl (lv_at hl 1 rfl) ?_
      obtain ⟨g6, hf⟩ := ss_if hf
      refine ra_i hx hb hW (kS_in (by decide)) g6 dX8_sell_38 ?_
      obtain ⟨r7, σ7, hf7, hf⟩ := ss_bd_some hf
      refine rv_i S (c_X8_costOf l hAD  hf7) (cwV 1 hts gX8_sell_X8_costOf rfl rfl rfl hd_X8_costOf ⟨(Nat.le_of_ble_eq_true rfl), (Nat.le_of_ble_eq_true rfl)⟩) hW (kS_in (by decide)) rfl rfl rfl hl.1 (Nat.le_of_ble_eq_true rfl) ⟨Nat.zero_le _, Nat.zero_le _⟩ dX8_sell_39 (fun H locs hW => ?_)
      refine lv_iconst (v := (2 : Int32)) hx hb dX8_sell_42 (by decide) ?_
      refine lv_idiv hx hb dX8_sell_43 (by decide) ?_
      refine lv_istore_n (lv' := [(2, .int (r7 / (2 : Int32))), (0, .ref (A 0 7 0)), (1, .int p0)]) hx hb dX8_sell_44 rfl hl (by decide) rfl (fun ls hl => ?_)
      refine lv_aload_n hx hb dX8_sell_45 rfl (lv_at hl 1 rfl) ?_
      refine lv_iload_n hx hb dX8_sell_46 rfl (lv_at hl 2 rfl) ?_
      refine lv_iconst (v := (-1 : Int32)) hx hb dX8_sell_47 (by decide) ?_
      obtain ⟨σ8, hf8, hf⟩ := ss_bind hf
      refine rv_v S (c_X8_mark l hAD  hf8) (cwV 2 hts gX8_sell_X8_mark rfl rfl rfl hd_X8_mark ⟨(Nat.le_of_ble_eq_true rfl), (Nat.le_of_ble_eq_true rfl)⟩) hW (kS_in (by decide)) rfl rfl rfl hl.1 (Nat.le_of_ble_eq_true rfl) ⟨Nat.zero_le _, Nat.zero_le _⟩ dX8_sell_48 (fun H locs hW => ?_)
      refine lv_aload_n hx hb dX8_sell_51 rfl (lv_at hl 1 rfl) ?_
      refine lv_sipush (v := (999 : Int32)) hx hb dX8_sell_52 (by decide) ?_
      refine lv_aload_n hx hb dX8_sell_55 rfl (lv_at hl 1 rfl) ?_
      refine gf_X8_purse hx hb hts hown hW (kS_in (by decide)) iX8 (List.mem_of_getElem? (i := 2) rfl) dX8_sell_56 ?_
      refine lv_iload_n hx hb dX8_sell_59 rfl (lv_at hl 0 rfl) ?_
      refine lv_iadd hx hb dX8_sell_60 ?_
      obtain ⟨r9, σ9, hf9, hf⟩ := ss_bd_some hf
      refine rt_i S (c_X8_lesser l hAD  hf9) (va_cwS 2 hts gX8_sell_X8_lesser rfl rfl rfl hd_X8_lesser ⟨(Nat.le_of_ble_eq_true rfl), (Nat.le_of_ble_eq_true rfl)⟩) hW rfl rfl hl.1 (Nat.le_of_ble_eq_true rfl) ⟨Nat.zero_le _, Nat.zero_le _⟩ dX8_sell_61 (fun H locs hW => ?_)
      refine pf_X8_purse hx hb hts hown hW (kS_in (by decide)) iX8 (List.mem_of_getElem? (i := 2) rfl) dX8_sell_64 (fun H locs hW => ?_)
      refine lv_iload_n hx hb dX8_sell_67 rfl (lv_at hl 0 rfl) ?_
      exact re_i hx hb hr hlocks hW (Option.some.inj hf) dX8_sell_68
    · rw [if_pos q4] at hf
      refine lv_aload_n hx hb dX8_sell_23 rfl (lv_at hl 0 rfl) ?_
      obtain ⟨r10, σ10, hf10, hf⟩ := ss_bd_some hf
      refine rv_i S (c_X8_no l hAD  hf10) (cwV 0 hts gX8_sell_X8_no rfl rfl rfl hd_X8_no ⟨(Nat.le_of_ble_eq_true rfl), (Nat.le_of_ble_eq_true rfl)⟩) hW (kS_in (by decide)) rfl rfl rfl hl.1 (Nat.le_of_ble_eq_true rfl) ⟨Nat.zero_le _, Nat.zero_le _⟩ dX8_sell_24 (fun H locs hW => ?_)
      exact re_i hx hb hr hlocks hW (Option.some.inj hf) dX8_sell_27
  · rw [if_pos q2] at hf
    refine lv_aload_n hx hb dX8_sell_8 rfl (lv_at hl 0 rfl) ?_
    obtain ⟨r11, σ11, hf11, hf⟩ := ss_bd_some hf
    refine rv_i S (c_X8_bad l hAD  hf11) (cwV 0 hts gX8_sell_X8_bad rfl rfl rfl hd_X8_bad ⟨(Nat.le_of_ble_eq_true rfl), (Nat.le_of_ble_eq_true rfl)⟩) hW (kS_in (by decide)) rfl rfl rfl hl.1 (Nat.le_of_ble_eq_true rfl) ⟨Nat.zero_le _, Nat.zero_le _⟩ dX8_sell_9 (fun H locs hW => ?_)
    exact re_i hx hb hr hlocks hW (Option.some.inj hf) dX8_sell_12
def f_X8_readOut_j87 (x11_2 : Int32) (kb11 : Int32 → Int32 → ss_M → Option (Int32 × ss_M)) (r7 : Int32) (σ87_ : ss_M) : Option (Int32 × ss_M) :=
  kb11 r7 (x11_2 + (1 : Int32)) σ87_
def f_X8_readOut_L11 : Nat → Int32 → Int32 → ss_M → Option (Int32 × ss_M)
  | 0, _, _, _ => none
  | n11 + 1, x11_1, x11_2, σ11_ => if (sG σ11_ 17 0) ≤ x11_2 then (some (x11_2, σ11_)) else (if gd x11_2 12 = true then (if x11_1 < (sA σ11_ 17 0 (x11_2).toNatClampNeg) then (some (x11_2, σ11_)) else (if gd x11_2 12 = true then (if gd x11_2 12 = true then (ss_bd (f_X8_givenBy (sA σ11_ 18 0 (x11_2).toNatClampNeg) (x11_1 - (sA σ11_ 17 0 (x11_2).toNatClampNeg)) (sG σ11_ 18 0) σ11_) (fun r7 σ7 => if (sA σ11_ 18 0 (x11_2).toNatClampNeg) = (-1 : Int32) then (f_X8_readOut_j87 x11_2 (f_X8_readOut_L11 n11) r7 σ7) else (if gd x11_2 12 = true then (if gd x11_2 12 = true then (if gd x11_2 12 = true then (ss_bd (f_X8_dries (sA σ11_ 18 0 (x11_2).toNatClampNeg) (sAu σ7 19 0 (upd (sA σ7 19 0) (x11_2).toNatClampNeg ((sA σ7 19 0 (x11_2).toNatClampNeg) + (1 : Int32))))) (fun r12 σ12 => if (sA (sAu σ7 19 0 (upd (sA σ7 19 0) (x11_2).toNatClampNeg ((sA σ7 19 0 (x11_2).toNatClampNeg) + (1 : Int32)))) 19 0 (x11_2).toNatClampNeg) = r12 then (Option.bind (f_X8_mark x11_2 (-1 : Int32) σ12) (fun σ14 => f_X8_readOut_j87 x11_2 (f_X8_readOut_L11 n11) r7 σ14)) else (f_X8_readOut_j87 x11_2 (f_X8_readOut_L11 n11) r7 σ12))) else none) else none) else none))) else none) else none)) else none)
def f_X8_readOut (σ : ss_M) : Option (Int32 × ss_M) :=
  Option.bind (f_X8_notes σ) (fun σ1 => f_X8_readOut_L11 FU (sG σ1 18 0) (0 : Int32) σ1)
def rm_X8_readOut : Room := { frames := 4, cells := 0, slots := 0, locals := 200 }
theorem hd_X8_readOut : yX8_readOut.cls = RX8 ∧ yX8_readOut.cls ≠ "java/lang/invoke/MethodHandle" ∧ yX8_readOut.cls ≠ "java/lang/invoke/VarHandle" ∧ (parseMethodDescriptor yX8_readOut.desc).map (fun d => d.parameters.length) = some 0 := by decide +kernel
set_option maxHeartbeats 4000000 in
set_option maxRecDepth 100000 in
theorem c_X8_readOut (l : Launch) {D : va_G} {Y : Nat → ClassId} {A : ss_A} (hAD : AD 1 A)   {r : Int32} {σ σ' : ss_M} (hf : f_X8_readOut σ = some (r, σ')) : Met l yX8_readOut wsX8_readOut rm_X8_readOut (Pc0 1 D Y A σ [.ref (A 0 7 0)]) (Qi0 1 D Y A r σ') 0 0 (FA 1 A) := by
  rw [f_X8_readOut] at hf
  refine Met0 (cc := cX8_readOut) (maxL := 4) (ret := (some .int)) (own := RX8) (by decide +kernel) rfl hAD rfl (Nat.le_of_ble_eq_true rfl) ?_
  intro p e s m args below meth c S hr hlocks hW ls hl
  obtain ⟨hx, hb, hml, hown, hts⟩ := id S
  have iX8 : ∀ q ∈ wsX80, q ∈ wsX8_readOut := fun q h => List.mem_cons_of_mem _ (List.mem_append_right _ (h))
  have hl : lv_has ls 4 [(0, .ref (A 0 7 0))] := hl
  refine lv_aload_n hx hb dX8_readOut_0 rfl (lv_at hl 0 rfl) ?_
  obtain ⟨σ1, hf1, hf⟩ := ss_bind hf
  refine rv_v S (c_X8_notes l hAD  hf1) (cwV 0 hts gX8_readOut_X8_notes rfl rfl rfl hd_X8_notes ⟨(Nat.le_of_ble_eq_true rfl), (Nat.le_of_ble_eq_true rfl)⟩) hW (kS_in (by decide)) rfl rfl rfl hl.1 (Nat.le_of_ble_eq_true rfl) ⟨Nat.zero_le _, Nat.zero_le _⟩ dX8_readOut_1 (fun H locs hW => ?_)
  refine lv_aload_n hx hb dX8_readOut_4 rfl (lv_at hl 0 rfl) ?_
  refine gf_X8_breath hx hb hts hown hW (kS_in (by decide)) iX8 (List.mem_of_getElem? (i := 1) rfl) dX8_readOut_5 ?_
  refine lv_istore_n (lv' := [(1, .int (sG σ1 18 0)), (0, .ref (A 0 7 0))]) hx hb dX8_readOut_8 rfl hl (by decide) rfl (fun ls hl => ?_)
  refine lv_iconst (v := (0 : Int32)) hx hb dX8_readOut_9 (by decide) ?_
  refine lv_istore_n (lv' := [(2, .int (0 : Int32)), (1, .int (sG σ1 18 0)), (0, .ref (A 0 7 0))]) hx hb dX8_readOut_10 rfl hl (by decide) rfl (fun ls hl => ?_)
  have L11 : ∀ (n11 : Nat), ∀ (x11_1 : Int32) (x11_2 : Int32) (σ11_ : ss_M) (H : Heap) (locs : List Loc) (ls : Array Slot), sW 1 D Y A σ11_ s s.heap H locs → lv_has ls 4 [(0, .ref (A 0 7 0)), (1, .int x11_1), (2, .int x11_2)] → f_X8_readOut_L11 n11 x11_1 x11_2 σ11_ = some (r, σ') → W p l e rm_X8_readOut s m args below meth c H locs 0 0 (MQ below (Qi0 1 D Y A r σ') args s 0 0 (FA 1 A)) (F0 m 11 ls []) := by
    intro n11
    induction n11 with
    | zero =>
      intro x11_1 x11_2 σ11_ H locs ls hW hl hf
      rw [f_X8_readOut_L11] at hf
      cases hf
    | succ n11 ih11 =>
      intro x11_1 x11_2 σ11_ H locs ls hW hl hf
      rw [f_X8_readOut_L11] at hf
      refine lv_iload_n hx hb dX8_readOut_11 rfl (lv_at hl 2 rfl) ?_
      refine lv_aload_n hx hb dX8_readOut_12 rfl (lv_at hl 0 rfl) ?_
      refine gf_X8_many hx hb hts hown hW (kS_in (by decide)) iX8 (List.mem_of_getElem? (i := 2) rfl) dX8_readOut_13 ?_
      refine lv_icmp_ge (tgt := 93) hx hb dX8_readOut_16 (by decide) (fun q2 => ?_) (fun q2 => ?_)
      · rw [if_pos q2] at hf
        refine lv_iload_n hx hb dX8_readOut_93 rfl (lv_at hl 2 rfl) ?_
        exact re_i hx hb hr hlocks hW (Option.some.inj hf) dX8_readOut_94
      · rw [if_neg q2] at hf
        refine lv_aload_n hx hb dX8_readOut_19 rfl (lv_at hl 0 rfl) ?_
        refine gf_X8_lengths hx hb hts hown hW (kS_in (by decide)) iX8 (List.mem_of_getElem? (i := 3) rfl) dX8_readOut_20 ?_
        refine lv_iload_n hx hb dX8_readOut_23 rfl (lv_at hl 2 rfl) ?_
        obtain ⟨g3, hf⟩ := ss_if hf
        refine ra_i hx hb hW (kS_in (by decide)) g3 dX8_readOut_24 ?_
        refine lv_iload_n hx hb dX8_readOut_25 rfl (lv_at hl 1 rfl) ?_
        refine lv_icmp_gt (tgt := 93) hx hb dX8_readOut_26 (by decide) (fun q4 => ?_) (fun q4 => ?_)
        · rw [if_pos q4] at hf
          refine lv_iload_n hx hb dX8_readOut_93 rfl (lv_at hl 2 rfl) ?_
          exact re_i hx hb hr hlocks hW (Option.some.inj hf) dX8_readOut_94
        · rw [if_neg q4] at hf
          refine lv_aload_n hx hb dX8_readOut_29 rfl (lv_at hl 0 rfl) ?_
          refine gf_X8_kinds hx hb hts hown hW (kS_in (by decide)) iX8 (List.mem_of_getElem? (i := 4) rfl) dX8_readOut_30 ?_
          refine lv_iload_n hx hb dX8_readOut_33 rfl (lv_at hl 2 rfl) ?_
          obtain ⟨g5, hf⟩ := ss_if hf
          refine ra_i hx hb hW (kS_in (by decide)) g5 dX8_readOut_34 ?_
          refine lv_istore_n (lv' := [(3, .int (sA σ11_ 18 0 (x11_2).toNatClampNeg)), (0, .ref (A 0 7 0)), (1, .int x11_1), (2, .int x11_2)]) hx hb dX8_readOut_35 rfl hl (by decide) rfl (fun ls hl => ?_)
          refine lv_iload_n hx hb dX8_readOut_36 rfl (lv_at hl 0 rfl) ?_
          refine lv_iload_n hx hb dX8_readOut_37 rfl (lv_at hl 2 rfl) ?_
          refine lv_aload_n hx hb dX8_readOut_38 rfl (lv_at hl 1 rfl) ?_
          refine gf_X8_lengths hx hb hts hown hW (kS_in (by decide)) iX8 (List.mem_of_getElem? (i := 3) rfl) dX8_readOut_39 ?_
          refine lv_iload_n hx hb dX8_readOut_42 rfl (lv_at hl 3 rfl) ?_
          obtain ⟨g6, hf⟩ := ss_if hf
          refine ra_i hx hb hW (kS_in (by decide)) g6 dX8_readOut_43 ?_
          refine lv_isub hx hb dX8_readOut_44 ?_
          refine lv_aload_n hx hb dX8_readOut_45 rfl (lv_at hl 1 rfl) ?_
          refine gf_X8_breath hx hb hts hown hW (kS_in (by decide)) iX8 (List.mem_of_getElem? (i := 1) rfl) dX8_readOut_46 ?_
          obtain ⟨r7, σ7, hf7, hf⟩ := ss_bd_some hf
          refine rt_i S (c_X8_givenBy l hAD  hf7) (va_cwS 3 hts gX8_readOut_X8_givenBy rfl rfl rfl hd_X8_givenBy ⟨(Nat.le_of_ble_eq_true rfl), (Nat.le_of_ble_eq_true rfl)⟩) hW rfl rfl hl.1 (Nat.le_of_ble_eq_true rfl) ⟨Nat.zero_le _, Nat.zero_le _⟩ dX8_readOut_49 (fun H locs hW => ?_)
          refine lv_istore_n (lv' := [(1, .int r7), (3, .int (sA σ11_ 18 0 (x11_2).toNatClampNeg)), (0, .ref (A 0 7 0)), (2, .int x11_2)]) hx hb dX8_readOut_52 rfl hl (by decide) rfl (fun ls hl => ?_)
          refine lv_iload_n hx hb dX8_readOut_53 rfl (lv_at hl 1 rfl) ?_
          refine lv_iconst (v := (-1 : Int32)) hx hb dX8_readOut_54 (by decide) ?_
          have J87 : ∀ (σ87_ : ss_M) (H : Heap) (locs : List Loc) (ls : Array Slot), sW 1 D Y A σ87_ s s.heap H locs → lv_has ls 4 [(0, .ref (A 0 7 0)), (1, .int r7), (2, .int x11_2)] → f_X8_readOut_j87 x11_2 (f_X8_readOut_L11 n11) r7 σ87_ = some (r, σ') → W p l e rm_X8_readOut s m args below meth c H locs 0 0 (MQ below (Qi0 1 D Y A r σ') args s 0 0 (FA 1 A)) (F0 m 87 ls []) := by
            intro σ87_ H locs ls hW hl hf
            rw [f_X8_readOut_j87] at hf
            refine lv_iinc (v := (x11_2 + (1 : Int32))) (lv' := [(2, .int (x11_2 + (1 : Int32))), (0, .ref (A 0 7 0)), (1, .int r7)]) hx hb dX8_readOut_87 hl (k := 2) rfl rfl (by decide) rfl (fun ls hl => ?_)
            refine lv_goto (tgt := 11) hx hb dX8_readOut_90 (by decide) ?_
            exact ih11 r7 (x11_2 + (1 : Int32)) σ87_ _ _ _ hW (lv_sub hl [1, 2, 0] rfl) hf
          refine lv_icmp_eq (tgt := 87) hx hb dX8_readOut_55 (by decide) (fun q8 => ?_) (fun q8 => ?_)
          · rw [if_pos q8] at hf
            exact J87 σ7 _ _ _ hW (lv_sub hl [2, 0, 3] rfl) hf
          · rw [if_neg q8] at hf
            refine lv_aload_n hx hb dX8_readOut_58 rfl (lv_at hl 2 rfl) ?_
            refine gf_X8_reads hx hb hts hown hW (kS_in (by decide)) iX8 (List.mem_of_getElem? (i := 5) rfl) dX8_readOut_59 ?_
            refine lv_iload_n hx hb dX8_readOut_62 rfl (lv_at hl 3 rfl) ?_
            refine lv_dup2_11 hx hb dX8_readOut_63 rfl rfl ?_
            obtain ⟨g9, hf⟩ := ss_if hf
            refine ra_i hx hb hW (kS_in (by decide)) g9 dX8_readOut_64 ?_
            refine lv_iconst (v := (1 : Int32)) hx hb dX8_readOut_65 (by decide) ?_
            refine lv_iadd hx hb dX8_readOut_66 ?_
            obtain ⟨g10, hf⟩ := ss_if hf
            refine rs_i hx hb hW (kS_in (by decide)) g10 dX8_readOut_67 (fun H locs hW => ?_)
            refine lv_aload_n hx hb dX8_readOut_68 rfl (lv_at hl 2 rfl) ?_
            refine gf_X8_reads hx hb hts hown hW (kS_in (by decide)) iX8 (List.mem_of_getElem? (i := 5) rfl) dX8_readOut_69 ?_
            refine lv_iload_n hx hb dX8_readOut_72 rfl (lv_at hl 3 rfl) ?_
            obtain ⟨g11, hf⟩ := ss_if hf
            refine ra_i hx hb hW (kS_in (by decide)) g11 dX8_readOut_73 ?_
            refine lv_iload_n hx hb dX8_readOut_74 rfl (lv_at hl 1 rfl) ?_
            obtain ⟨r12, σ12, hf12, hf⟩ := ss_bd_some hf
            refine rt_i S (c_X8_dries l hAD  hf12) (va_cwS 1 hts gX8_readOut_X8_dries rfl rfl rfl hd_X8_dries ⟨(Nat.le_of_ble_eq_true rfl), (Nat.le_of_ble_eq_true rfl)⟩) hW rfl rfl hl.1 (Nat.le_of_ble_eq_true rfl) ⟨Nat.zero_le _, Nat.zero_le _⟩ dX8_readOut_75 (fun H locs hW => ?_)
            refine lv_icmp_ne (tgt := 87) hx hb dX8_readOut_78 (by decide) (fun q13 => ?_) (fun q13 => ?_)
            · rw [if_neg q13] at hf
              exact J87 σ12 _ _ _ hW (lv_sub hl [2, 0, 3] rfl) hf
            · rw [if_pos q13] at hf
              refine lv_aload_n hx hb dX8_readOut_81 rfl (lv_at hl 2 rfl) ?_
              refine lv_iload_n hx hb dX8_readOut_82 rfl (lv_at hl 3 rfl) ?_
              refine lv_iconst (v := (-1 : Int32)) hx hb dX8_readOut_83 (by decide) ?_
              obtain ⟨σ14, hf14, hf⟩ := ss_bind hf
              refine rv_v S (c_X8_mark l hAD  hf14) (cwV 2 hts gX8_readOut_X8_mark rfl rfl rfl hd_X8_mark ⟨(Nat.le_of_ble_eq_true rfl), (Nat.le_of_ble_eq_true rfl)⟩) hW (kS_in (by decide)) rfl rfl rfl hl.1 (Nat.le_of_ble_eq_true rfl) ⟨Nat.zero_le _, Nat.zero_le _⟩ dX8_readOut_84 (fun H locs hW => ?_)
              exact J87 σ14 _ _ _ hW (lv_sub hl [2, 0, 3] rfl) hf
  exact L11 FU (sG σ1 18 0) (0 : Int32) σ1 _ _ _ hW (lv_sub hl [2, 1, 0] rfl) hf
def f_X8_week (p0 : Int32) (σ : ss_M) : Option (Int32 × ss_M) :=
  ss_bd (f_X8_in p0 (1 : Int32) (20 : Int32) σ) (fun r1 σ1 => if r1 = (0 : Int32) then (ss_bd (f_X8_bad σ1) (fun r4 σ4 => some (r4, σ4))) else (Option.bind (f_X8_notes σ1) (fun σ3 => some ((sG (sGu σ3 21 0 ((sG σ3 21 0) + p0)) 21 0), (sGu σ3 21 0 ((sG σ3 21 0) + p0))))))
def rm_X8_week : Room := { frames := 2, cells := 0, slots := 0, locals := 100 }
theorem hd_X8_week : yX8_week.cls = RX8 ∧ yX8_week.cls ≠ "java/lang/invoke/MethodHandle" ∧ yX8_week.cls ≠ "java/lang/invoke/VarHandle" ∧ (parseMethodDescriptor yX8_week.desc).map (fun d => d.parameters.length) = some 1 := by decide +kernel
set_option maxHeartbeats 4000000 in
set_option maxRecDepth 100000 in
theorem c_X8_week (l : Launch) {D : va_G} {Y : Nat → ClassId} {A : ss_A} (hAD : AD 1 A) {p0 : Int32}  {r : Int32} {σ σ' : ss_M} (hf : f_X8_week p0 σ = some (r, σ')) : Met l yX8_week wsX8_week rm_X8_week (Pc0 1 D Y A σ [.ref (A 0 7 0), .int p0]) (Qi0 1 D Y A r σ') 0 0 (FA 1 A) := by
  rw [f_X8_week] at hf
  refine Met0 (cc := cX8_week) (maxL := 2) (ret := (some .int)) (own := RX8) (by decide +kernel) rfl hAD rfl (Nat.le_of_ble_eq_true rfl) ?_
  intro p e s m args below meth c S hr hlocks hW ls hl
  obtain ⟨hx, hb, hml, hown, hts⟩ := id S
  have iX8 : ∀ q ∈ wsX80, q ∈ wsX8_week := fun q h => List.mem_cons_of_mem _ (List.mem_append_right _ (h))
  have hl : lv_has ls 2 [(0, .ref (A 0 7 0)), (1, .int p0)] := hl
  refine lv_iload_n hx hb dX8_week_0 rfl (lv_at hl 1 rfl) ?_
  refine lv_iconst (v := (1 : Int32)) hx hb dX8_week_1 (by decide) ?_
  refine lv_bipush (v := (20 : Int32)) hx hb dX8_week_2 (by decide) ?_
  obtain ⟨r1, σ1, hf1, hf⟩ := ss_bd_some hf
  refine rt_i S (c_X8_in l hAD  hf1) (va_cwS 3 hts gX8_week_X8_in rfl rfl rfl hd_X8_in ⟨(Nat.le_of_ble_eq_true rfl), (Nat.le_of_ble_eq_true rfl)⟩) hW rfl rfl hl.1 (Nat.le_of_ble_eq_true rfl) ⟨Nat.zero_le _, Nat.zero_le _⟩ dX8_week_4 (fun H locs hW => ?_)
  refine lv_if_ne (tgt := 15) hx hb dX8_week_7 (by decide) (fun q2 => ?_) (fun q2 => ?_)
  · rw [if_neg q2] at hf
    refine lv_aload_n hx hb dX8_week_15 rfl (lv_at hl 0 rfl) ?_
    obtain ⟨σ3, hf3, hf⟩ := ss_bind hf
    refine rv_v S (c_X8_notes l hAD  hf3) (cwV 0 hts gX8_week_X8_notes rfl rfl rfl hd_X8_notes ⟨(Nat.le_of_ble_eq_true rfl), (Nat.le_of_ble_eq_true rfl)⟩) hW (kS_in (by decide)) rfl rfl rfl hl.1 (Nat.le_of_ble_eq_true rfl) ⟨Nat.zero_le _, Nat.zero_le _⟩ dX8_week_16 (fun H locs hW => ?_)
    refine lv_aload_n hx hb dX8_week_19 rfl (lv_at hl 0 rfl) ?_
    refine lv_dup hx hb dX8_week_20 rfl ?_
    refine gf_X8_week hx hb hts hown hW (kS_in (by decide)) iX8 (List.mem_of_getElem? (i := 1) rfl) dX8_week_21 ?_
    refine lv_iload_n hx hb dX8_week_24 rfl (lv_at hl 1 rfl) ?_
    refine lv_iadd hx hb dX8_week_25 ?_
    refine pf_X8_week hx hb hts hown hW (kS_in (by decide)) iX8 (List.mem_of_getElem? (i := 1) rfl) dX8_week_26 (fun H locs hW => ?_)
    refine lv_aload_n hx hb dX8_week_29 rfl (lv_at hl 0 rfl) ?_
    refine gf_X8_week hx hb hts hown hW (kS_in (by decide)) iX8 (List.mem_of_getElem? (i := 1) rfl) dX8_week_30 ?_
    exact re_i hx hb hr hlocks hW (Option.some.inj hf) dX8_week_33
  · rw [if_pos q2] at hf
    refine lv_aload_n hx hb dX8_week_10 rfl (lv_at hl 0 rfl) ?_
    obtain ⟨r4, σ4, hf4, hf⟩ := ss_bd_some hf
    refine rv_i S (c_X8_bad l hAD  hf4) (cwV 0 hts gX8_week_X8_bad rfl rfl rfl hd_X8_bad ⟨(Nat.le_of_ble_eq_true rfl), (Nat.le_of_ble_eq_true rfl)⟩) hW (kS_in (by decide)) rfl rfl rfl hl.1 (Nat.le_of_ble_eq_true rfl) ⟨Nat.zero_le _, Nat.zero_le _⟩ dX8_week_11 (fun H locs hW => ?_)
    exact re_i hx hb hr hlocks hW (Option.some.inj hf) dX8_week_14
def f_X8_undo_j99 (σ99_ : ss_M) : Option (Int32 × ss_M) :=
  some ((sG σ99_ 20 0), σ99_)
def f_X8_undo_L54 (k54_99 : ss_M → Option (Int32 × ss_M)) : Nat → Int32 → Int32 → ss_M → Option (Int32 × ss_M)
  | 0, _, _, _ => none
  | n54 + 1, x54_1, x54_2, σ54_ => if (12 : Int32) ≤ x54_2 then (k54_99 σ54_) else (if gd ((x54_1 + (2 : Int32)) + x54_2) 208 = true then (if gd x54_2 12 = true then (if gd ((x54_1 + (14 : Int32)) + x54_2) 208 = true then (if gd x54_2 12 = true then (ss_let (sAu (sAu σ54_ 18 0 (upd (sA σ54_ 18 0) (x54_2).toNatClampNeg (sA σ54_ 23 0 (((x54_1 + (2 : Int32)) + x54_2)).toNatClampNeg))) 19 0 (upd (sA (sAu σ54_ 18 0 (upd (sA σ54_ 18 0) (x54_2).toNatClampNeg (sA σ54_ 23 0 (((x54_1 + (2 : Int32)) + x54_2)).toNatClampNeg))) 19 0) (x54_2).toNatClampNeg (sA (sAu σ54_ 18 0 (upd (sA σ54_ 18 0) (x54_2).toNatClampNeg (sA σ54_ 23 0 (((x54_1 + (2 : Int32)) + x54_2)).toNatClampNeg))) 23 0 (((x54_1 + (14 : Int32)) + x54_2)).toNatClampNeg))) (fun σm10 => (f_X8_undo_L54 k54_99 n54) x54_1 (x54_2 + (1 : Int32)) σm10)) else none) else none) else none) else none)
def f_X8_undo (σ : ss_M) : Option (Int32 × ss_M) :=
  if (sG σ 27 0) = (0 : Int32) then (ss_bd (f_X8_no σ) (fun r11 σ11 => some (r11, σ11))) else (if gd ((26 : Int32) * (sG (sGu σ 27 0 ((sG σ 27 0) - (1 : Int32))) 27 0)) 208 = true then (ss_let (sGu (sGu σ 27 0 ((sG σ 27 0) - (1 : Int32))) 20 0 (sA (sGu σ 27 0 ((sG σ 27 0) - (1 : Int32))) 23 0 (((26 : Int32) * (sG (sGu σ 27 0 ((sG σ 27 0) - (1 : Int32))) 27 0))).toNatClampNeg)) (fun σm3 => if gd (((26 : Int32) * (sG (sGu σ 27 0 ((sG σ 27 0) - (1 : Int32))) 27 0)) + (1 : Int32)) 208 = true then (f_X8_undo_L54 (f_X8_undo_j99) FU ((26 : Int32) * (sG (sGu σ 27 0 ((sG σ 27 0) - (1 : Int32))) 27 0)) (0 : Int32) (sGu σm3 21 0 (sA σm3 23 0 ((((26 : Int32) * (sG (sGu σ 27 0 ((sG σ 27 0) - (1 : Int32))) 27 0)) + (1 : Int32))).toNatClampNeg))) else none)) else none)
def rm_X8_undo : Room := { frames := 2, cells := 0, slots := 0, locals := 100 }
theorem hd_X8_undo : yX8_undo.cls = RX8 ∧ yX8_undo.cls ≠ "java/lang/invoke/MethodHandle" ∧ yX8_undo.cls ≠ "java/lang/invoke/VarHandle" ∧ (parseMethodDescriptor yX8_undo.desc).map (fun d => d.parameters.length) = some 0 := by decide +kernel
set_option maxHeartbeats 4000000 in
set_option maxRecDepth 100000 in
theorem c_X8_undo (l : Launch) {D : va_G} {Y : Nat → ClassId} {A : ss_A} (hAD : AD 1 A)   {r : Int32} {σ σ' : ss_M} (hf : f_X8_undo σ = some (r, σ')) : Met l yX8_undo wsX8_undo rm_X8_undo (Pc0 1 D Y A σ [.ref (A 0 7 0)]) (Qi0 1 D Y A r σ') 0 0 (FA 1 A) := by
  rw [f_X8_undo] at hf
  refine Met0 (cc := cX8_undo) (maxL := 3) (ret := (some .int)) (own := RX8) (by decide +kernel) rfl hAD rfl (Nat.le_of_ble_eq_true rfl) ?_
  intro p e s m args below meth c S hr hlocks hW ls hl
  obtain ⟨hx, hb, hml, hown, hts⟩ := id S
  have iX8 : ∀ q ∈ wsX80, q ∈ wsX8_undo := fun q h => List.mem_cons_of_mem _ (List.mem_append_right _ (h))
  have hl : lv_has ls 3 [(0, .ref (A 0 7 0))] := hl
  refine lv_aload_n hx hb dX8_undo_0 rfl (lv_at hl 0 rfl) ?_
  refine gf_X8_undoMany hx hb hts hown hW (kS_in (by decide)) iX8 (List.mem_of_getElem? (i := 1) rfl) dX8_undo_1 ?_
  refine lv_if_ne (tgt := 12) hx hb dX8_undo_4 (by decide) (fun q1 => ?_) (fun q1 => ?_)
  · rw [if_neg q1] at hf
    refine lv_aload_n hx hb dX8_undo_12 rfl (lv_at hl 0 rfl) ?_
    refine lv_dup hx hb dX8_undo_13 rfl ?_
    refine gf_X8_undoMany hx hb hts hown hW (kS_in (by decide)) iX8 (List.mem_of_getElem? (i := 1) rfl) dX8_undo_14 ?_
    refine lv_iconst (v := (1 : Int32)) hx hb dX8_undo_17 (by decide) ?_
    refine lv_isub hx hb dX8_undo_18 ?_
    refine pf_X8_undoMany hx hb hts hown hW (kS_in (by decide)) iX8 (List.mem_of_getElem? (i := 1) rfl) dX8_undo_19 (fun H locs hW => ?_)
    refine lv_bipush (v := (26 : Int32)) hx hb dX8_undo_22 (by decide) ?_
    refine lv_aload_n hx hb dX8_undo_24 rfl (lv_at hl 0 rfl) ?_
    refine gf_X8_undoMany hx hb hts hown hW (kS_in (by decide)) iX8 (List.mem_of_getElem? (i := 1) rfl) dX8_undo_25 ?_
    refine lv_imul hx hb dX8_undo_28 ?_
    refine lv_istore_n (lv' := [(1, .int ((26 : Int32) * (sG (sGu σ 27 0 ((sG σ 27 0) - (1 : Int32))) 27 0))), (0, .ref (A 0 7 0))]) hx hb dX8_undo_29 rfl hl (by decide) rfl (fun ls hl => ?_)
    refine lv_aload_n hx hb dX8_undo_30 rfl (lv_at hl 1 rfl) ?_
    refine lv_aload_n hx hb dX8_undo_31 rfl (lv_at hl 1 rfl) ?_
    refine gf_X8_ahead hx hb hts hown hW (kS_in (by decide)) iX8 (List.mem_of_getElem? (i := 2) rfl) dX8_undo_32 ?_
    refine lv_iload_n hx hb dX8_undo_35 rfl (lv_at hl 0 rfl) ?_
    obtain ⟨g2, hf⟩ := ss_if hf
    refine ra_i hx hb hW (kS_in (by decide)) g2 dX8_undo_36 ?_
    refine pf_X8_purse hx hb hts hown hW (kS_in (by decide)) iX8 (List.mem_of_getElem? (i := 3) rfl) dX8_undo_37 (fun H locs hW => ?_)
    obtain ⟨σm3, eσm3, hf⟩ := ss_let_some hf
    rw [← eσm3] at hW
    refine lv_aload_n hx hb dX8_undo_40 rfl (lv_at hl 1 rfl) ?_
    refine lv_aload_n hx hb dX8_undo_41 rfl (lv_at hl 1 rfl) ?_
    refine gf_X8_ahead hx hb hts hown hW (kS_in (by decide)) iX8 (List.mem_of_getElem? (i := 2) rfl) dX8_undo_42 ?_
    refine lv_iload_n hx hb dX8_undo_45 rfl (lv_at hl 0 rfl) ?_
    refine lv_iconst (v := (1 : Int32)) hx hb dX8_undo_46 (by decide) ?_
    refine lv_iadd hx hb dX8_undo_47 ?_
    obtain ⟨g4, hf⟩ := ss_if hf
    refine ra_i hx hb hW (kS_in (by decide)) g4 dX8_undo_48 ?_
    refine pf_X8_week hx hb hts hown hW (kS_in (by decide)) iX8 (List.mem_of_getElem? (i := 4) rfl) dX8_undo_49 (fun H locs hW => ?_)
    refine lv_iconst (v := (0 : Int32)) hx hb dX8_undo_52 (by decide) ?_
    refine lv_istore_n (lv' := [(2, .int (0 : Int32)), (1, .int ((26 : Int32) * (sG (sGu σ 27 0 ((sG σ 27 0) - (1 : Int32))) 27 0))), (0, .ref (A 0 7 0))]) hx hb dX8_undo_53 rfl hl (by decide) rfl (fun ls hl => ?_)
    have J99 : ∀ (σ99_ : ss_M) (H : Heap) (locs : List Loc) (ls : Array Slot), sW 1 D Y A σ99_ s s.heap H locs → lv_has ls 3 [(0, .ref (A 0 7 0))] → f_X8_undo_j99 σ99_ = some (r, σ') → W p l e rm_X8_undo s m args below meth c H locs 0 0 (MQ below (Qi0 1 D Y A r σ') args s 0 0 (FA 1 A)) (F0 m 99 ls []) := by
      intro σ99_ H locs ls hW hl hf
      rw [f_X8_undo_j99] at hf
      refine lv_aload_n hx hb dX8_undo_99 rfl (lv_at hl 0 rfl) ?_
      refine gf_X8_purse hx hb hts hown hW (kS_in (by decide)) iX8 (List.mem_of_getElem? (i := 3) rfl) dX8_undo_100 ?_
      exact re_i hx hb hr hlocks hW (Option.some.inj hf) dX8_undo_103
    have L54 : ∀ (n54 : Nat), ∀ (x54_1 : Int32) (x54_2 : Int32) (σ54_ : ss_M) (H : Heap) (locs : List Loc) (ls : Array Slot), sW 1 D Y A σ54_ s s.heap H locs → lv_has ls 3 [(0, .ref (A 0 7 0)), (1, .int x54_1), (2, .int x54_2)] → f_X8_undo_L54 (f_X8_undo_j99) n54 x54_1 x54_2 σ54_ = some (r, σ') → W p l e rm_X8_undo s m args below meth c H locs 0 0 (MQ below (Qi0 1 D Y A r σ') args s 0 0 (FA 1 A)) (F0 m 54 ls []) := by
      intro n54
      induction n54 with
      | zero =>
        intro x54_1 x54_2 σ54_ H locs ls hW hl hf
        rw [f_X8_undo_L54] at hf
        cases hf
      | succ n54 ih54 =>
        intro x54_1 x54_2 σ54_ H locs ls hW hl hf
        rw [f_X8_undo_L54] at hf
        refine lv_iload_n hx hb dX8_undo_54 rfl (lv_at hl 2 rfl) ?_
        refine lv_bipush (v := (12 : Int32)) hx hb dX8_undo_55 (by decide) ?_
        refine lv_icmp_ge (tgt := 99) hx hb dX8_undo_57 (by decide) (fun q5 => ?_) (fun q5 => ?_)
        · rw [if_pos q5] at hf
          exact J99 σ54_ _ _ _ hW (lv_sub hl [0] rfl) hf
        · rw [if_neg q5] at hf
          refine lv_aload_n hx hb dX8_undo_60 rfl (lv_at hl 0 rfl) ?_
          refine gf_X8_kinds hx hb hts hown hW (kS_in (by decide)) iX8 (List.mem_of_getElem? (i := 5) rfl) dX8_undo_61 ?_
          refine lv_iload_n hx hb dX8_undo_64 rfl (lv_at hl 2 rfl) ?_
          refine lv_aload_n hx hb dX8_undo_65 rfl (lv_at hl 0 rfl) ?_
          refine gf_X8_ahead hx hb hts hown hW (kS_in (by decide)) iX8 (List.mem_of_getElem? (i := 2) rfl) dX8_undo_66 ?_
          refine lv_iload_n hx hb dX8_undo_69 rfl (lv_at hl 1 rfl) ?_
          refine lv_iconst (v := (2 : Int32)) hx hb dX8_undo_70 (by decide) ?_
          refine lv_iadd hx hb dX8_undo_71 ?_
          refine lv_iload_n hx hb dX8_undo_72 rfl (lv_at hl 2 rfl) ?_
          refine lv_iadd hx hb dX8_undo_73 ?_
          obtain ⟨g6, hf⟩ := ss_if hf
          refine ra_i hx hb hW (kS_in (by decide)) g6 dX8_undo_74 ?_
          obtain ⟨g7, hf⟩ := ss_if hf
          refine rs_i hx hb hW (kS_in (by decide)) g7 dX8_undo_75 (fun H locs hW => ?_)
          refine lv_aload_n hx hb dX8_undo_76 rfl (lv_at hl 0 rfl) ?_
          refine gf_X8_reads hx hb hts hown hW (kS_in (by decide)) iX8 (List.mem_of_getElem? (i := 6) rfl) dX8_undo_77 ?_
          refine lv_iload_n hx hb dX8_undo_80 rfl (lv_at hl 2 rfl) ?_
          refine lv_aload_n hx hb dX8_undo_81 rfl (lv_at hl 0 rfl) ?_
          refine gf_X8_ahead hx hb hts hown hW (kS_in (by decide)) iX8 (List.mem_of_getElem? (i := 2) rfl) dX8_undo_82 ?_
          refine lv_iload_n hx hb dX8_undo_85 rfl (lv_at hl 1 rfl) ?_
          refine lv_bipush (v := (14 : Int32)) hx hb dX8_undo_86 (by decide) ?_
          refine lv_iadd hx hb dX8_undo_88 ?_
          refine lv_iload_n hx hb dX8_undo_89 rfl (lv_at hl 2 rfl) ?_
          refine lv_iadd hx hb dX8_undo_90 ?_
          obtain ⟨g8, hf⟩ := ss_if hf
          refine ra_i hx hb hW (kS_in (by decide)) g8 dX8_undo_91 ?_
          obtain ⟨g9, hf⟩ := ss_if hf
          refine rs_i hx hb hW (kS_in (by decide)) g9 dX8_undo_92 (fun H locs hW => ?_)
          obtain ⟨σm10, eσm10, hf⟩ := ss_let_some hf
          rw [← eσm10] at hW
          refine lv_iinc (v := (x54_2 + (1 : Int32))) (lv' := [(2, .int (x54_2 + (1 : Int32))), (0, .ref (A 0 7 0)), (1, .int x54_1)]) hx hb dX8_undo_93 hl (k := 2) rfl rfl (by decide) rfl (fun ls hl => ?_)
          refine lv_goto (tgt := 54) hx hb dX8_undo_96 (by decide) ?_
          exact ih54 x54_1 (x54_2 + (1 : Int32)) σm10 _ _ _ hW (lv_sub hl [1, 2, 0] rfl) hf
    exact L54 FU ((26 : Int32) * (sG (sGu σ 27 0 ((sG σ 27 0) - (1 : Int32))) 27 0)) (0 : Int32) (sGu σm3 21 0 (sA σm3 23 0 ((((26 : Int32) * (sG (sGu σ 27 0 ((sG σ 27 0) - (1 : Int32))) 27 0)) + (1 : Int32))).toNatClampNeg)) _ _ _ hW (lv_sub hl [2, 1, 0] rfl) hf
  · rw [if_pos q1] at hf
    refine lv_aload_n hx hb dX8_undo_7 rfl (lv_at hl 0 rfl) ?_
    obtain ⟨r11, σ11, hf11, hf⟩ := ss_bd_some hf
    refine rv_i S (c_X8_no l hAD  hf11) (cwV 0 hts gX8_undo_X8_no rfl rfl rfl hd_X8_no ⟨(Nat.le_of_ble_eq_true rfl), (Nat.le_of_ble_eq_true rfl)⟩) hW (kS_in (by decide)) rfl rfl rfl hl.1 (Nat.le_of_ble_eq_true rfl) ⟨Nat.zero_le _, Nat.zero_le _⟩ dX8_undo_8 (fun H locs hW => ?_)
    exact re_i hx hb hr hlocks hW (Option.some.inj hf) dX8_undo_11
def f_X8_of_j17 (σ17_ : ss_M) : Option (Int32 × ss_M) :=
  ss_bd (f_X8_ten σ17_) (fun r2 σ2 => some (r2, σ2))
def f_X8_of (p0 : Int32) (p1 : Int32) (σ : ss_M) : Option (Int32 × ss_M) :=
  ss_bd (f_X8_isPiece p0 σ) (fun r1 σ1 => if r1 = (0 : Int32) then (f_X8_of_j17 σ1) else (ss_bd (f_X8_in p1 (0 : Int32) (3 : Int32) σ1) (fun r4 σ4 => if r4 = (0 : Int32) then (f_X8_of_j17 σ4) else (if p1 = (0 : Int32) then (if gd p0 12 = true then (some ((sA σ4 17 0 (p0).toNatClampNeg), σ4)) else none) else if p1 = (1 : Int32) then (if gd p0 12 = true then (some ((sA σ4 18 0 (p0).toNatClampNeg), σ4)) else none) else if p1 = (2 : Int32) then (if gd p0 12 = true then (some ((sA σ4 19 0 (p0).toNatClampNeg), σ4)) else none) else (if gd p0 12 = true then (if (sA σ4 18 0 (p0).toNatClampNeg) = (-1 : Int32) then (some ((0 : Int32), σ4)) else (if gd p0 12 = true then (ss_bd (f_X8_costOf (sA σ4 18 0 (p0).toNatClampNeg) σ4) (fun r15 σ15 => some (r15, σ15))) else none)) else none)))))
def rm_X8_of : Room := { frames := 4, cells := 0, slots := 0, locals := 200 }
theorem hd_X8_of : yX8_of.cls = RX8 ∧ yX8_of.cls ≠ "java/lang/invoke/MethodHandle" ∧ yX8_of.cls ≠ "java/lang/invoke/VarHandle" ∧ (parseMethodDescriptor yX8_of.desc).map (fun d => d.parameters.length) = some 2 := by decide +kernel
set_option maxHeartbeats 4000000 in
set_option maxRecDepth 100000 in
theorem c_X8_of (l : Launch) {D : va_G} {Y : Nat → ClassId} {A : ss_A} (hAD : AD 1 A) {p0 : Int32} {p1 : Int32}  {r : Int32} {σ σ' : ss_M} (hf : f_X8_of p0 p1 σ = some (r, σ')) : Met l yX8_of wsX8_of rm_X8_of (Pc0 1 D Y A σ [.ref (A 0 7 0), .int p0, .int p1]) (Qi0 1 D Y A r σ') 0 0 (FA 1 A) := by
  rw [f_X8_of] at hf
  refine Met0 (cc := cX8_of) (maxL := 3) (ret := (some .int)) (own := RX8) (by decide +kernel) rfl hAD rfl (Nat.le_of_ble_eq_true rfl) ?_
  intro p e s m args below meth c S hr hlocks hW ls hl
  obtain ⟨hx, hb, hml, hown, hts⟩ := id S
  have iX8 : ∀ q ∈ wsX80, q ∈ wsX8_of := fun q h => List.mem_cons_of_mem _ (List.mem_append_right _ (h))
  have hl : lv_has ls 3 [(0, .ref (A 0 7 0)), (1, .int p0), (2, .int p1)] := hl
  refine lv_aload_n hx hb dX8_of_0 rfl (lv_at hl 0 rfl) ?_
  refine lv_iload_n hx hb dX8_of_1 rfl (lv_at hl 1 rfl) ?_
  obtain ⟨r1, σ1, hf1, hf⟩ := ss_bd_some hf
  refine rv_i S (c_X8_isPiece l hAD  hf1) (cwV 1 hts gX8_of_X8_isPiece rfl rfl rfl hd_X8_isPiece ⟨(Nat.le_of_ble_eq_true rfl), (Nat.le_of_ble_eq_true rfl)⟩) hW (kS_in (by decide)) rfl rfl rfl hl.1 (Nat.le_of_ble_eq_true rfl) ⟨Nat.zero_le _, Nat.zero_le _⟩ dX8_of_2 (fun H locs hW => ?_)
  have J17 : ∀ (σ17_ : ss_M) (H : Heap) (locs : List Loc) (ls : Array Slot), sW 1 D Y A σ17_ s s.heap H locs → lv_has ls 3 [(0, .ref (A 0 7 0))] → f_X8_of_j17 σ17_ = some (r, σ') → W p l e rm_X8_of s m args below meth c H locs 0 0 (MQ below (Qi0 1 D Y A r σ') args s 0 0 (FA 1 A)) (F0 m 17 ls []) := by
    intro σ17_ H locs ls hW hl hf
    rw [f_X8_of_j17] at hf
    refine lv_aload_n hx hb dX8_of_17 rfl (lv_at hl 0 rfl) ?_
    obtain ⟨r2, σ2, hf2, hf⟩ := ss_bd_some hf
    refine rv_i S (c_X8_ten l hAD  hf2) (cwV 0 hts gX8_of_X8_ten rfl rfl rfl hd_X8_ten ⟨(Nat.le_of_ble_eq_true rfl), (Nat.le_of_ble_eq_true rfl)⟩) hW (kS_in (by decide)) rfl rfl rfl hl.1 (Nat.le_of_ble_eq_true rfl) ⟨Nat.zero_le _, Nat.zero_le _⟩ dX8_of_18 (fun H locs hW => ?_)
    exact re_i hx hb hr hlocks hW (Option.some.inj hf) dX8_of_21
  refine lv_if_eq (tgt := 17) hx hb dX8_of_5 (by decide) (fun q3 => ?_) (fun q3 => ?_)
  · rw [if_pos q3] at hf
    exact J17 σ1 _ _ _ hW (lv_sub hl [0] rfl) hf
  · rw [if_neg q3] at hf
    refine lv_iload_n hx hb dX8_of_8 rfl (lv_at hl 2 rfl) ?_
    refine lv_iconst (v := (0 : Int32)) hx hb dX8_of_9 (by decide) ?_
    refine lv_iconst (v := (3 : Int32)) hx hb dX8_of_10 (by decide) ?_
    obtain ⟨r4, σ4, hf4, hf⟩ := ss_bd_some hf
    refine rt_i S (c_X8_in l hAD  hf4) (va_cwS 3 hts gX8_of_X8_in rfl rfl rfl hd_X8_in ⟨(Nat.le_of_ble_eq_true rfl), (Nat.le_of_ble_eq_true rfl)⟩) hW rfl rfl hl.1 (Nat.le_of_ble_eq_true rfl) ⟨Nat.zero_le _, Nat.zero_le _⟩ dX8_of_11 (fun H locs hW => ?_)
    refine lv_if_ne (tgt := 22) hx hb dX8_of_14 (by decide) (fun q5 => ?_) (fun q5 => ?_)
    · rw [if_neg q5] at hf
      refine lv_iload_n hx hb dX8_of_22 rfl (lv_at hl 2 rfl) ?_
      by_cases q6 : p1 = (0 : Int32)
      · rw [if_pos q6] at hf
        refine lv_tableIn (off := 25) (tgt := 48) hx hb dX8_of_23 (by rw [q6]; decide) (by rw [q6]; decide) (by rw [q6]; decide) (by decide) ?_
        refine lv_aload_n hx hb dX8_of_48 rfl (lv_at hl 0 rfl) ?_
        refine gf_X8_lengths hx hb hts hown hW (kS_in (by decide)) iX8 (List.mem_of_getElem? (i := 1) rfl) dX8_of_49 ?_
        refine lv_iload_n hx hb dX8_of_52 rfl (lv_at hl 1 rfl) ?_
        obtain ⟨g7, hf⟩ := ss_if hf
        refine ra_i hx hb hW (kS_in (by decide)) g7 dX8_of_53 ?_
        exact re_i hx hb hr hlocks hW (Option.some.inj hf) dX8_of_54
      · rw [if_neg q6] at hf
        by_cases q8 : p1 = (1 : Int32)
        · rw [if_pos q8] at hf
          refine lv_tableIn (off := 32) (tgt := 55) hx hb dX8_of_23 (by rw [q8]; decide) (by rw [q8]; decide) (by rw [q8]; decide) (by decide) ?_
          refine lv_aload_n hx hb dX8_of_55 rfl (lv_at hl 0 rfl) ?_
          refine gf_X8_kinds hx hb hts hown hW (kS_in (by decide)) iX8 (List.mem_of_getElem? (i := 2) rfl) dX8_of_56 ?_
          refine lv_iload_n hx hb dX8_of_59 rfl (lv_at hl 1 rfl) ?_
          obtain ⟨g9, hf⟩ := ss_if hf
          refine ra_i hx hb hW (kS_in (by decide)) g9 dX8_of_60 ?_
          exact re_i hx hb hr hlocks hW (Option.some.inj hf) dX8_of_61
        · rw [if_neg q8] at hf
          by_cases q10 : p1 = (2 : Int32)
          · rw [if_pos q10] at hf
            refine lv_tableIn (off := 39) (tgt := 62) hx hb dX8_of_23 (by rw [q10]; decide) (by rw [q10]; decide) (by rw [q10]; decide) (by decide) ?_
            refine lv_aload_n hx hb dX8_of_62 rfl (lv_at hl 0 rfl) ?_
            refine gf_X8_reads hx hb hts hown hW (kS_in (by decide)) iX8 (List.mem_of_getElem? (i := 3) rfl) dX8_of_63 ?_
            refine lv_iload_n hx hb dX8_of_66 rfl (lv_at hl 1 rfl) ?_
            obtain ⟨g11, hf⟩ := ss_if hf
            refine ra_i hx hb hW (kS_in (by decide)) g11 dX8_of_67 ?_
            exact re_i hx hb hr hlocks hW (Option.some.inj hf) dX8_of_68
          · rw [if_neg q10] at hf
            refine lv_tableOut (tgt := 69) hx hb dX8_of_23 (by have z := And.intro (lv_neT q6 (a := 0) rfl) (And.intro (lv_neT q8 (a := 1) rfl) (lv_neT q10 (a := 2) rfl)); omega) (by decide) ?_
            refine lv_aload_n hx hb dX8_of_69 rfl (lv_at hl 0 rfl) ?_
            refine gf_X8_kinds hx hb hts hown hW (kS_in (by decide)) iX8 (List.mem_of_getElem? (i := 2) rfl) dX8_of_70 ?_
            refine lv_iload_n hx hb dX8_of_73 rfl (lv_at hl 1 rfl) ?_
            obtain ⟨g12, hf⟩ := ss_if hf
            refine ra_i hx hb hW (kS_in (by decide)) g12 dX8_of_74 ?_
            refine lv_iconst (v := (-1 : Int32)) hx hb dX8_of_75 (by decide) ?_
            refine lv_icmp_ne (tgt := 83) hx hb dX8_of_76 (by decide) (fun q13 => ?_) (fun q13 => ?_)
            · rw [if_neg q13] at hf
              refine lv_aload_n hx hb dX8_of_83 rfl (lv_at hl 0 rfl) ?_
              refine lv_aload_n hx hb dX8_of_84 rfl (lv_at hl 0 rfl) ?_
              refine gf_X8_kinds hx hb hts hown hW (kS_in (by decide)) iX8 (List.mem_of_getElem? (i := 2) rfl) dX8_of_85 ?_
              refine lv_iload_n hx hb dX8_of_88 rfl (lv_at hl 1 rfl) ?_
              obtain ⟨g14, hf⟩ := ss_if hf
              refine ra_i hx hb hW (kS_in (by decide)) g14 dX8_of_89 ?_
              obtain ⟨r15, σ15, hf15, hf⟩ := ss_bd_some hf
              refine rv_i S (c_X8_costOf l hAD  hf15) (cwV 1 hts gX8_of_X8_costOf rfl rfl rfl hd_X8_costOf ⟨(Nat.le_of_ble_eq_true rfl), (Nat.le_of_ble_eq_true rfl)⟩) hW (kS_in (by decide)) rfl rfl rfl hl.1 (Nat.le_of_ble_eq_true rfl) ⟨Nat.zero_le _, Nat.zero_le _⟩ dX8_of_90 (fun H locs hW => ?_)
              exact re_i hx hb hr hlocks hW (Option.some.inj hf) dX8_of_93
            · rw [if_pos q13] at hf
              refine lv_iconst (v := (0 : Int32)) hx hb dX8_of_79 (by decide) ?_
              refine lv_goto (tgt := 93) hx hb dX8_of_80 (by decide) ?_
              exact re_i hx hb hr hlocks hW (Option.some.inj hf) dX8_of_93
    · rw [if_pos q5] at hf
      exact J17 σ4 _ _ _ hW (lv_sub hl [0] rfl) hf
