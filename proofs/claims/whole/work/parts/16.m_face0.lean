def f_X7_isWithin (p0 : Int32) (p1 : Int32) (p2 : Int32) (σ : ss_M) : Option (Int32 × ss_M) :=
  if p0 < p1 then (some ((0 : Int32), σ)) else (if p2 < p0 then (some ((0 : Int32), σ)) else (some ((1 : Int32), σ)))
def rm_X7_isWithin : Room := { frames := 0, cells := 0, slots := 0, locals := 0 }
theorem hd_X7_isWithin : yX7_isWithin.cls ≠ "java/lang/invoke/MethodHandle" ∧ yX7_isWithin.cls ≠ "java/lang/invoke/VarHandle" ∧ (parseMethodDescriptor yX7_isWithin.desc).map (fun d => d.parameters.length) = some 3 := by decide +kernel
set_option maxHeartbeats 4000000 in
set_option maxRecDepth 100000 in
theorem c_X7_isWithin (l : Launch) {D : va_G} {Y : Nat → ClassId} {A : ss_A} (hAD : AD 0 A) {p0 : Int32} {p1 : Int32} {p2 : Int32}  {r : Int32} {σ σ' : ss_M} (hf : f_X7_isWithin p0 p1 p2 σ = some (r, σ')) : Met l yX7_isWithin wsX7_isWithin rm_X7_isWithin (Pc0 0 D Y A σ [.int p0, .int p1, .int p2]) (Qi0 0 D Y A r σ') 0 0 (FA 0 A) := by
  rw [f_X7_isWithin] at hf
  refine Met0 (cc := cX7_isWithin) (maxL := 3) (ret := (some .boolean)) (own := RX7) (by decide +kernel) rfl hAD rfl (Nat.le_of_ble_eq_true rfl) ?_
  intro p e s m args below meth c S hr hlocks hW ls hl
  obtain ⟨hx, hb, hml, hown, hts⟩ := id S
  have hl : lv_has ls 3 [(0, .int p0), (1, .int p1), (2, .int p2)] := hl
  refine lv_iload_n hx hb dX7_isWithin_0 rfl (lv_at hl 0 rfl) ?_
  refine lv_iload_n hx hb dX7_isWithin_1 rfl (lv_at hl 1 rfl) ?_
  refine lv_icmp_lt (tgt := 14) hx hb dX7_isWithin_2 (by decide) (fun q1 => ?_) (fun q1 => ?_)
  · rw [if_pos q1] at hf
    refine lv_iconst (v := (0 : Int32)) hx hb dX7_isWithin_14 (by decide) ?_
    exact re_z hx hb hr hlocks hW (by decide) (Option.some.inj hf) dX7_isWithin_15
  · rw [if_neg q1] at hf
    refine lv_iload_n hx hb dX7_isWithin_5 rfl (lv_at hl 0 rfl) ?_
    refine lv_iload_n hx hb dX7_isWithin_6 rfl (lv_at hl 2 rfl) ?_
    refine lv_icmp_gt (tgt := 14) hx hb dX7_isWithin_7 (by decide) (fun q2 => ?_) (fun q2 => ?_)
    · rw [if_pos q2] at hf
      refine lv_iconst (v := (0 : Int32)) hx hb dX7_isWithin_14 (by decide) ?_
      exact re_z hx hb hr hlocks hW (by decide) (Option.some.inj hf) dX7_isWithin_15
    · rw [if_neg q2] at hf
      refine lv_iconst (v := (1 : Int32)) hx hb dX7_isWithin_10 (by decide) ?_
      refine lv_goto (tgt := 15) hx hb dX7_isWithin_11 (by decide) ?_
      exact re_z hx hb hr hlocks hW (by decide) (Option.some.inj hf) dX7_isWithin_15
def f_X7_isBreath (p0 : Int32) (σ : ss_M) : Option (Int32 × ss_M) :=
  ss_bd (f_X7_isWithin p0 (1 : Int32) (30 : Int32) σ) (fun r1 σ1 => if r1 &&& (1 : Int32) = r1 then (some (r1, σ1)) else none)
def rm_X7_isBreath : Room := { frames := 2, cells := 0, slots := 0, locals := 100 }
theorem hd_X7_isBreath : yX7_isBreath.cls ≠ "java/lang/invoke/MethodHandle" ∧ yX7_isBreath.cls ≠ "java/lang/invoke/VarHandle" ∧ (parseMethodDescriptor yX7_isBreath.desc).map (fun d => d.parameters.length) = some 1 := by decide +kernel
set_option maxHeartbeats 4000000 in
set_option maxRecDepth 100000 in
theorem c_X7_isBreath (l : Launch) {D : va_G} {Y : Nat → ClassId} {A : ss_A} (hAD : AD 0 A) {p0 : Int32}  {r : Int32} {σ σ' : ss_M} (hf : f_X7_isBreath p0 σ = some (r, σ')) : Met l yX7_isBreath wsX7_isBreath rm_X7_isBreath (Pc0 0 D Y A σ [.int p0]) (Qi0 0 D Y A r σ') 0 0 (FA 0 A) := by
  rw [f_X7_isBreath] at hf
  refine Met0 (cc := cX7_isBreath) (maxL := 1) (ret := (some .boolean)) (own := RX7) (by decide +kernel) rfl hAD rfl (Nat.le_of_ble_eq_true rfl) ?_
  intro p e s m args below meth c S hr hlocks hW ls hl
  obtain ⟨hx, hb, hml, hown, hts⟩ := id S
  have hl : lv_has ls 1 [(0, .int p0)] := hl
  refine lv_iload_n hx hb dX7_isBreath_0 rfl (lv_at hl 0 rfl) ?_
  refine lv_iconst (v := (1 : Int32)) hx hb dX7_isBreath_1 (by decide) ?_
  refine lv_bipush (v := (30 : Int32)) hx hb dX7_isBreath_2 (by decide) ?_
  obtain ⟨r1, σ1, hf1, hf⟩ := ss_bd_some hf
  refine rt_i S (c_X7_isWithin l hAD  hf1) (va_cwS 3 hts gX7_isBreath_X7_isWithin rfl rfl rfl hd_X7_isWithin ⟨(Nat.le_of_ble_eq_true rfl), (Nat.le_of_ble_eq_true rfl)⟩) hW rfl rfl hl.1 (Nat.le_of_ble_eq_true rfl) ⟨Nat.zero_le _, Nat.zero_le _⟩ dX7_isBreath_4 (fun H locs hW => ?_)
  obtain ⟨g2, hf⟩ := ss_if hf
  exact re_z hx hb hr hlocks hW g2 (Option.some.inj hf) dX7_isBreath_7
def f_X7_isPrice (p0 : Int32) (σ : ss_M) : Option (Int32 × ss_M) :=
  ss_bd (f_X7_isWithin p0 (1 : Int32) (9 : Int32) σ) (fun r1 σ1 => if r1 &&& (1 : Int32) = r1 then (some (r1, σ1)) else none)
def rm_X7_isPrice : Room := { frames := 2, cells := 0, slots := 0, locals := 100 }
theorem hd_X7_isPrice : yX7_isPrice.cls ≠ "java/lang/invoke/MethodHandle" ∧ yX7_isPrice.cls ≠ "java/lang/invoke/VarHandle" ∧ (parseMethodDescriptor yX7_isPrice.desc).map (fun d => d.parameters.length) = some 1 := by decide +kernel
set_option maxHeartbeats 4000000 in
set_option maxRecDepth 100000 in
theorem c_X7_isPrice (l : Launch) {D : va_G} {Y : Nat → ClassId} {A : ss_A} (hAD : AD 0 A) {p0 : Int32}  {r : Int32} {σ σ' : ss_M} (hf : f_X7_isPrice p0 σ = some (r, σ')) : Met l yX7_isPrice wsX7_isPrice rm_X7_isPrice (Pc0 0 D Y A σ [.int p0]) (Qi0 0 D Y A r σ') 0 0 (FA 0 A) := by
  rw [f_X7_isPrice] at hf
  refine Met0 (cc := cX7_isPrice) (maxL := 1) (ret := (some .boolean)) (own := RX7) (by decide +kernel) rfl hAD rfl (Nat.le_of_ble_eq_true rfl) ?_
  intro p e s m args below meth c S hr hlocks hW ls hl
  obtain ⟨hx, hb, hml, hown, hts⟩ := id S
  have hl : lv_has ls 1 [(0, .int p0)] := hl
  refine lv_iload_n hx hb dX7_isPrice_0 rfl (lv_at hl 0 rfl) ?_
  refine lv_iconst (v := (1 : Int32)) hx hb dX7_isPrice_1 (by decide) ?_
  refine lv_bipush (v := (9 : Int32)) hx hb dX7_isPrice_2 (by decide) ?_
  obtain ⟨r1, σ1, hf1, hf⟩ := ss_bd_some hf
  refine rt_i S (c_X7_isWithin l hAD  hf1) (va_cwS 3 hts gX7_isPrice_X7_isWithin rfl rfl rfl hd_X7_isWithin ⟨(Nat.le_of_ble_eq_true rfl), (Nat.le_of_ble_eq_true rfl)⟩) hW rfl rfl hl.1 (Nat.le_of_ble_eq_true rfl) ⟨Nat.zero_le _, Nat.zero_le _⟩ dX7_isPrice_4 (fun H locs hW => ?_)
  obtain ⟨g2, hf⟩ := ss_if hf
  exact re_z hx hb hr hlocks hW g2 (Option.some.inj hf) dX7_isPrice_7
def f_X7_bad (p0 : Int32) (σ : ss_M) : Option (Int32 × ss_M) :=
  some (p0, (sGu σ 14 0 ((sG σ 14 0) + (1 : Int32))))
def rm_X7_bad : Room := { frames := 0, cells := 0, slots := 0, locals := 0 }
theorem hd_X7_bad : yX7_bad.cls = RX7 ∧ yX7_bad.cls ≠ "java/lang/invoke/MethodHandle" ∧ yX7_bad.cls ≠ "java/lang/invoke/VarHandle" ∧ (parseMethodDescriptor yX7_bad.desc).map (fun d => d.parameters.length) = some 1 := by decide +kernel
set_option maxHeartbeats 4000000 in
set_option maxRecDepth 100000 in
theorem c_X7_bad (l : Launch) {D : va_G} {Y : Nat → ClassId} {A : ss_A} (hAD : AD 0 A) {p0 : Int32}  {r : Int32} {σ σ' : ss_M} (hf : f_X7_bad p0 σ = some (r, σ')) : Met l yX7_bad wsX7_bad rm_X7_bad (Pc0 0 D Y A σ [.ref (A 0 6 0), .int p0]) (Qi0 0 D Y A r σ') 0 0 (FA 0 A) := by
  rw [f_X7_bad] at hf
  refine Met0 (cc := cX7_bad) (maxL := 2) (ret := (some .int)) (own := RX7) (by decide +kernel) rfl hAD rfl (Nat.le_of_ble_eq_true rfl) ?_
  intro p e s m args below meth c S hr hlocks hW ls hl
  obtain ⟨hx, hb, hml, hown, hts⟩ := id S
  have iX7 : ∀ q ∈ wsX70, q ∈ wsX7_bad := fun q h => List.mem_cons_of_mem _ (List.mem_append_right _ (h))
  have hl : lv_has ls 2 [(0, .ref (A 0 6 0)), (1, .int p0)] := hl
  refine lv_aload_n hx hb dX7_bad_0 rfl (lv_at hl 0 rfl) ?_
  refine lv_dup hx hb dX7_bad_1 rfl ?_
  refine gf_X7_bads hx hb hts hown hW (kS_in (by decide)) iX7 (List.mem_of_getElem? (i := 1) rfl) dX7_bad_2 ?_
  refine lv_iconst (v := (1 : Int32)) hx hb dX7_bad_5 (by decide) ?_
  refine lv_iadd hx hb dX7_bad_6 ?_
  refine pf_X7_bads hx hb hts hown hW (kS_in (by decide)) iX7 (List.mem_of_getElem? (i := 1) rfl) dX7_bad_7 (fun H locs hW => ?_)
  refine lv_iload_n hx hb dX7_bad_10 rfl (lv_at hl 1 rfl) ?_
  exact re_i hx hb hr hlocks hW (Option.some.inj hf) dX7_bad_11
def f_X7_page_j14 (σ14_ : ss_M) : Option (Int32 × ss_M) :=
  ss_bd (f_X7_bad (-2 : Int32) σ14_) (fun r2 σ2 => some (r2, σ2))
def f_X7_page (p0 : Int32) (p1 : Int32) (σ : ss_M) : Option (Int32 × ss_M) :=
  ss_bd (f_X7_isBreath p0 σ) (fun r1 σ1 => if r1 = (0 : Int32) then (f_X7_page_j14 σ1) else (ss_bd (f_X7_isPrice p1 σ1) (fun r4 σ4 => if r4 = (0 : Int32) then (f_X7_page_j14 σ4) else (Option.bind (f_X4_begin 0 p0 p1 σ4) (fun σ6 => some ((sG σ4 5 0), σ6))))))
def rm_X7_page : Room := { frames := 4, cells := 0, slots := 0, locals := 200 }
theorem hd_X7_page : yX7_page.cls = RX7 ∧ yX7_page.cls ≠ "java/lang/invoke/MethodHandle" ∧ yX7_page.cls ≠ "java/lang/invoke/VarHandle" ∧ (parseMethodDescriptor yX7_page.desc).map (fun d => d.parameters.length) = some 2 := by decide +kernel
set_option maxHeartbeats 4000000 in
set_option maxRecDepth 100000 in
theorem c_X7_page (l : Launch) {D : va_G} {Y : Nat → ClassId} {A : ss_A} (hAD : AD 0 A) {p0 : Int32} {p1 : Int32}  {r : Int32} {σ σ' : ss_M} (hf : f_X7_page p0 p1 σ = some (r, σ')) : Met l yX7_page wsX7_page rm_X7_page (Pc0 0 D Y A σ [.ref (A 0 6 0), .int p0, .int p1]) (Qi0 0 D Y A r σ') 0 0 (FA 0 A) := by
  rw [f_X7_page] at hf
  refine Met0 (cc := cX7_page) (maxL := 4) (ret := (some .int)) (own := RX7) (by decide +kernel) rfl hAD rfl (Nat.le_of_ble_eq_true rfl) ?_
  intro p e s m args below meth c S hr hlocks hW ls hl
  obtain ⟨hx, hb, hml, hown, hts⟩ := id S
  have iX7 : ∀ q ∈ wsX70, q ∈ wsX7_page := fun q h => List.mem_cons_of_mem _ (List.mem_append_left _ (List.mem_append_left _ (List.mem_append_right _ (h))))
  have iX4 : ∀ q ∈ wsX40, q ∈ wsX7_page := fun q h => List.mem_cons_of_mem _ (List.mem_append_left _ (List.mem_append_right _ (h)))
  have hl : lv_has ls 4 [(0, .ref (A 0 6 0)), (1, .int p0), (2, .int p1)] := hl
  refine lv_iload_n hx hb dX7_page_0 rfl (lv_at hl 1 rfl) ?_
  obtain ⟨r1, σ1, hf1, hf⟩ := ss_bd_some hf
  refine rt_i S (c_X7_isBreath l hAD  hf1) (va_cwS 1 hts gX7_page_X7_isBreath rfl rfl rfl hd_X7_isBreath ⟨(Nat.le_of_ble_eq_true rfl), (Nat.le_of_ble_eq_true rfl)⟩) hW rfl rfl hl.1 (Nat.le_of_ble_eq_true rfl) ⟨Nat.zero_le _, Nat.zero_le _⟩ dX7_page_1 (fun H locs hW => ?_)
  have J14 : ∀ (σ14_ : ss_M) (H : Heap) (locs : List Loc) (ls : Array Slot), sW 0 D Y A σ14_ s s.heap H locs → lv_has ls 4 [(0, .ref (A 0 6 0))] → f_X7_page_j14 σ14_ = some (r, σ') → W p l e rm_X7_page s m args below meth c H locs 0 0 (MQ below (Qi0 0 D Y A r σ') args s 0 0 (FA 0 A)) (F0 m 14 ls []) := by
    intro σ14_ H locs ls hW hl hf
    rw [f_X7_page_j14] at hf
    refine lv_aload_n hx hb dX7_page_14 rfl (lv_at hl 0 rfl) ?_
    refine lv_bipush (v := (-2 : Int32)) hx hb dX7_page_15 (by decide) ?_
    obtain ⟨r2, σ2, hf2, hf⟩ := ss_bd_some hf
    refine rv_i S (c_X7_bad l hAD  hf2) (cwV 1 hts gX7_page_X7_bad rfl rfl rfl hd_X7_bad ⟨(Nat.le_of_ble_eq_true rfl), (Nat.le_of_ble_eq_true rfl)⟩) hW (kS_in (by decide)) rfl rfl rfl hl.1 (Nat.le_of_ble_eq_true rfl) ⟨Nat.zero_le _, Nat.zero_le _⟩ dX7_page_17 (fun H locs hW => ?_)
    exact re_i hx hb hr hlocks hW (Option.some.inj hf) dX7_page_20
  refine lv_if_eq (tgt := 14) hx hb dX7_page_4 (by decide) (fun q3 => ?_) (fun q3 => ?_)
  · rw [if_pos q3] at hf
    exact J14 σ1 _ _ _ hW (lv_sub hl [0] rfl) hf
  · rw [if_neg q3] at hf
    refine lv_iload_n hx hb dX7_page_7 rfl (lv_at hl 2 rfl) ?_
    obtain ⟨r4, σ4, hf4, hf⟩ := ss_bd_some hf
    refine rt_i S (c_X7_isPrice l hAD  hf4) (va_cwS 1 hts gX7_page_X7_isPrice rfl rfl rfl hd_X7_isPrice ⟨(Nat.le_of_ble_eq_true rfl), (Nat.le_of_ble_eq_true rfl)⟩) hW rfl rfl hl.1 (Nat.le_of_ble_eq_true rfl) ⟨Nat.zero_le _, Nat.zero_le _⟩ dX7_page_8 (fun H locs hW => ?_)
    refine lv_if_ne (tgt := 21) hx hb dX7_page_11 (by decide) (fun q5 => ?_) (fun q5 => ?_)
    · rw [if_neg q5] at hf
      refine lv_aload_n hx hb dX7_page_21 rfl (lv_at hl 0 rfl) ?_
      refine gf_X7_page hx hb hts hown hW (kS_in (by decide)) iX7 (List.mem_of_getElem? (i := 1) rfl) dX7_page_22 ?_
      refine gf_X4_words hx hb hts hown hW (kS_in (by decide)) iX4 (List.mem_of_getElem? (i := 2) rfl) dX7_page_25 ?_
      refine lv_istore_n (lv' := [(3, .int (sG σ4 5 0)), (0, .ref (A 0 6 0)), (1, .int p0), (2, .int p1)]) hx hb dX7_page_28 rfl hl (by decide) rfl (fun ls hl => ?_)
      refine lv_aload_n hx hb dX7_page_29 rfl (lv_at hl 1 rfl) ?_
      refine gf_X7_page hx hb hts hown hW (kS_in (by decide)) iX7 (List.mem_of_getElem? (i := 1) rfl) dX7_page_30 ?_
      refine lv_iload_n hx hb dX7_page_33 rfl (lv_at hl 2 rfl) ?_
      refine lv_iload_n hx hb dX7_page_34 rfl (lv_at hl 3 rfl) ?_
      obtain ⟨σ6, hf6, hf⟩ := ss_bind hf
      refine rv_v S (c_X4_begin l hAD (by decide) hf6) (cwV 2 hts gX7_page_X4_begin rfl rfl rfl hd_X4_begin ⟨(Nat.le_of_ble_eq_true rfl), (Nat.le_of_ble_eq_true rfl)⟩) hW (kS_in (by decide)) rfl rfl rfl hl.1 (Nat.le_of_ble_eq_true rfl) ⟨Nat.zero_le _, Nat.zero_le _⟩ dX7_page_35 (fun H locs hW => ?_)
      refine lv_iload_n hx hb dX7_page_38 rfl (lv_at hl 0 rfl) ?_
      exact re_i hx hb hr hlocks hW (Option.some.inj hf) dX7_page_39
    · rw [if_pos q5] at hf
      exact J14 σ4 _ _ _ hW (lv_sub hl [0] rfl) hf
def f_X7_isLength (p0 : Int32) (σ : ss_M) : Option (Int32 × ss_M) :=
  ss_bd (f_X7_isWithin p0 (1 : Int32) (9 : Int32) σ) (fun r1 σ1 => if r1 &&& (1 : Int32) = r1 then (some (r1, σ1)) else none)
def rm_X7_isLength : Room := { frames := 2, cells := 0, slots := 0, locals := 100 }
theorem hd_X7_isLength : yX7_isLength.cls ≠ "java/lang/invoke/MethodHandle" ∧ yX7_isLength.cls ≠ "java/lang/invoke/VarHandle" ∧ (parseMethodDescriptor yX7_isLength.desc).map (fun d => d.parameters.length) = some 1 := by decide +kernel
set_option maxHeartbeats 4000000 in
set_option maxRecDepth 100000 in
theorem c_X7_isLength (l : Launch) {D : va_G} {Y : Nat → ClassId} {A : ss_A} (hAD : AD 0 A) {p0 : Int32}  {r : Int32} {σ σ' : ss_M} (hf : f_X7_isLength p0 σ = some (r, σ')) : Met l yX7_isLength wsX7_isLength rm_X7_isLength (Pc0 0 D Y A σ [.int p0]) (Qi0 0 D Y A r σ') 0 0 (FA 0 A) := by
  rw [f_X7_isLength] at hf
  refine Met0 (cc := cX7_isLength) (maxL := 1) (ret := (some .boolean)) (own := RX7) (by decide +kernel) rfl hAD rfl (Nat.le_of_ble_eq_true rfl) ?_
  intro p e s m args below meth c S hr hlocks hW ls hl
  obtain ⟨hx, hb, hml, hown, hts⟩ := id S
  have hl : lv_has ls 1 [(0, .int p0)] := hl
  refine lv_iload_n hx hb dX7_isLength_0 rfl (lv_at hl 0 rfl) ?_
  refine lv_iconst (v := (1 : Int32)) hx hb dX7_isLength_1 (by decide) ?_
  refine lv_bipush (v := (9 : Int32)) hx hb dX7_isLength_2 (by decide) ?_
  obtain ⟨r1, σ1, hf1, hf⟩ := ss_bd_some hf
  refine rt_i S (c_X7_isWithin l hAD  hf1) (va_cwS 3 hts gX7_isLength_X7_isWithin rfl rfl rfl hd_X7_isWithin ⟨(Nat.le_of_ble_eq_true rfl), (Nat.le_of_ble_eq_true rfl)⟩) hW rfl rfl hl.1 (Nat.le_of_ble_eq_true rfl) ⟨Nat.zero_le _, Nat.zero_le _⟩ dX7_isLength_4 (fun H locs hW => ?_)
  obtain ⟨g2, hf⟩ := ss_if hf
  exact re_z hx hb hr hlocks hW g2 (Option.some.inj hf) dX7_isLength_7
def f_X7_full (p0 : Int32) (σ : ss_M) : Option (Int32 × ss_M) :=
  some (p0, (sGu σ 16 0 ((sG σ 16 0) + (1 : Int32))))
def rm_X7_full : Room := { frames := 0, cells := 0, slots := 0, locals := 0 }
theorem hd_X7_full : yX7_full.cls = RX7 ∧ yX7_full.cls ≠ "java/lang/invoke/MethodHandle" ∧ yX7_full.cls ≠ "java/lang/invoke/VarHandle" ∧ (parseMethodDescriptor yX7_full.desc).map (fun d => d.parameters.length) = some 1 := by decide +kernel
set_option maxHeartbeats 4000000 in
set_option maxRecDepth 100000 in
theorem c_X7_full (l : Launch) {D : va_G} {Y : Nat → ClassId} {A : ss_A} (hAD : AD 0 A) {p0 : Int32}  {r : Int32} {σ σ' : ss_M} (hf : f_X7_full p0 σ = some (r, σ')) : Met l yX7_full wsX7_full rm_X7_full (Pc0 0 D Y A σ [.ref (A 0 6 0), .int p0]) (Qi0 0 D Y A r σ') 0 0 (FA 0 A) := by
  rw [f_X7_full] at hf
  refine Met0 (cc := cX7_full) (maxL := 2) (ret := (some .int)) (own := RX7) (by decide +kernel) rfl hAD rfl (Nat.le_of_ble_eq_true rfl) ?_
  intro p e s m args below meth c S hr hlocks hW ls hl
  obtain ⟨hx, hb, hml, hown, hts⟩ := id S
  have iX7 : ∀ q ∈ wsX70, q ∈ wsX7_full := fun q h => List.mem_cons_of_mem _ (List.mem_append_right _ (h))
  have hl : lv_has ls 2 [(0, .ref (A 0 6 0)), (1, .int p0)] := hl
  refine lv_aload_n hx hb dX7_full_0 rfl (lv_at hl 0 rfl) ?_
  refine lv_dup hx hb dX7_full_1 rfl ?_
  refine gf_X7_fulls hx hb hts hown hW (kS_in (by decide)) iX7 (List.mem_of_getElem? (i := 1) rfl) dX7_full_2 ?_
  refine lv_iconst (v := (1 : Int32)) hx hb dX7_full_5 (by decide) ?_
  refine lv_iadd hx hb dX7_full_6 ?_
  refine pf_X7_fulls hx hb hts hown hW (kS_in (by decide)) iX7 (List.mem_of_getElem? (i := 1) rfl) dX7_full_7 (fun H locs hW => ?_)
  refine lv_iload_n hx hb dX7_full_10 rfl (lv_at hl 1 rfl) ?_
  exact re_i hx hb hr hlocks hW (Option.some.inj hf) dX7_full_11
def f_X7_word (p0 : Int32) (σ : ss_M) : Option (Int32 × ss_M) :=
  ss_bd (f_X7_isLength p0 σ) (fun r1 σ1 => if r1 = (0 : Int32) then (ss_bd (f_X7_bad (-2 : Int32) σ1) (fun r7 σ7 => some (r7, σ7))) else (ss_bd (f_X4_hasRoom 0 σ1) (fun r3 σ3 => if r3 = (0 : Int32) then (ss_bd (f_X7_full (-4 : Int32) σ3) (fun r6 σ6 => some (r6, σ6))) else (Option.bind (f_X4_addWord 0 p0 σ3) (fun σ5 => some (((sG σ5 5 0) - (1 : Int32)), σ5))))))
def rm_X7_word : Room := { frames := 4, cells := 0, slots := 0, locals := 200 }
theorem hd_X7_word : yX7_word.cls = RX7 ∧ yX7_word.cls ≠ "java/lang/invoke/MethodHandle" ∧ yX7_word.cls ≠ "java/lang/invoke/VarHandle" ∧ (parseMethodDescriptor yX7_word.desc).map (fun d => d.parameters.length) = some 1 := by decide +kernel
set_option maxHeartbeats 4000000 in
set_option maxRecDepth 100000 in
theorem c_X7_word (l : Launch) {D : va_G} {Y : Nat → ClassId} {A : ss_A} (hAD : AD 0 A) {p0 : Int32}  {r : Int32} {σ σ' : ss_M} (hf : f_X7_word p0 σ = some (r, σ')) : Met l yX7_word wsX7_word rm_X7_word (Pc0 0 D Y A σ [.ref (A 0 6 0), .int p0]) (Qi0 0 D Y A r σ') 0 0 (FA 0 A) := by
  rw [f_X7_word] at hf
  refine Met0 (cc := cX7_word) (maxL := 2) (ret := (some .int)) (own := RX7) (by decide +kernel) rfl hAD rfl (Nat.le_of_ble_eq_true rfl) ?_
  intro p e s m args below meth c S hr hlocks hW ls hl
  obtain ⟨hx, hb, hml, hown, hts⟩ := id S
  have iX7 : ∀ q ∈ wsX70, q ∈ wsX7_word := fun q h => List.mem_cons_of_mem _ (List.mem_append_left _ (List.mem_append_left _ (List.mem_append_right _ (h))))
  have iX4 : ∀ q ∈ wsX40, q ∈ wsX7_word := fun q h => List.mem_cons_of_mem _ (List.mem_append_left _ (List.mem_append_right _ (h)))
  have hl : lv_has ls 2 [(0, .ref (A 0 6 0)), (1, .int p0)] := hl
  refine lv_iload_n hx hb dX7_word_0 rfl (lv_at hl 1 rfl) ?_
  obtain ⟨r1, σ1, hf1, hf⟩ := ss_bd_some hf
  refine rt_i S (c_X7_isLength l hAD  hf1) (va_cwS 1 hts gX7_word_X7_isLength rfl rfl rfl hd_X7_isLength ⟨(Nat.le_of_ble_eq_true rfl), (Nat.le_of_ble_eq_true rfl)⟩) hW rfl rfl hl.1 (Nat.le_of_ble_eq_true rfl) ⟨Nat.zero_le _, Nat.zero_le _⟩ dX7_word_1 (fun H locs hW => ?_)
  refine lv_if_ne (tgt := 14) hx hb dX7_word_4 (by decide) (fun q2 => ?_) (fun q2 => ?_)
  · rw [if_neg q2] at hf
    refine lv_aload_n hx hb dX7_word_14 rfl (lv_at hl 0 rfl) ?_
    refine gf_X7_page hx hb hts hown hW (kS_in (by decide)) iX7 (List.mem_of_getElem? (i := 1) rfl) dX7_word_15 ?_
    obtain ⟨r3, σ3, hf3, hf⟩ := ss_bd_some hf
    refine rv_i S (c_X4_hasRoom l hAD (by decide) hf3) (cwV 0 hts gX7_word_X4_hasRoom rfl rfl rfl hd_X4_hasRoom ⟨(Nat.le_of_ble_eq_true rfl), (Nat.le_of_ble_eq_true rfl)⟩) hW (kS_in (by decide)) rfl rfl rfl hl.1 (Nat.le_of_ble_eq_true rfl) ⟨Nat.zero_le _, Nat.zero_le _⟩ dX7_word_18 (fun H locs hW => ?_)
    refine lv_if_ne (tgt := 31) hx hb dX7_word_21 (by decide) (fun q4 => ?_) (fun q4 => ?_)
    · rw [if_neg q4] at hf
      refine lv_aload_n hx hb dX7_word_31 rfl (lv_at hl 0 rfl) ?_
      refine gf_X7_page hx hb hts hown hW (kS_in (by decide)) iX7 (List.mem_of_getElem? (i := 1) rfl) dX7_word_32 ?_
      refine lv_iload_n hx hb dX7_word_35 rfl (lv_at hl 1 rfl) ?_
      obtain ⟨σ5, hf5, hf⟩ := ss_bind hf
      refine rv_v S (c_X4_addWord l hAD (by decide) hf5) (cwV 1 hts gX7_word_X4_addWord rfl rfl rfl hd_X4_addWord ⟨(Nat.le_of_ble_eq_true rfl), (Nat.le_of_ble_eq_true rfl)⟩) hW (kS_in (by decide)) rfl rfl rfl hl.1 (Nat.le_of_ble_eq_true rfl) ⟨Nat.zero_le _, Nat.zero_le _⟩ dX7_word_36 (fun H locs hW => ?_)
      refine lv_aload_n hx hb dX7_word_39 rfl (lv_at hl 0 rfl) ?_
      refine gf_X7_page hx hb hts hown hW (kS_in (by decide)) iX7 (List.mem_of_getElem? (i := 1) rfl) dX7_word_40 ?_
      refine gf_X4_words hx hb hts hown hW (kS_in (by decide)) iX4 (List.mem_of_getElem? (i := 2) rfl) dX7_word_43 ?_
      refine lv_iconst (v := (1 : Int32)) hx hb dX7_word_46 (by decide) ?_
      refine lv_isub hx hb dX7_word_47 ?_
      exact re_i hx hb hr hlocks hW (Option.some.inj hf) dX7_word_48
    · rw [if_pos q4] at hf
      refine lv_aload_n hx hb dX7_word_24 rfl (lv_at hl 0 rfl) ?_
      refine lv_bipush (v := (-4 : Int32)) hx hb dX7_word_25 (by decide) ?_
      obtain ⟨r6, σ6, hf6, hf⟩ := ss_bd_some hf
      refine rv_i S (c_X7_full l hAD  hf6) (cwV 1 hts gX7_word_X7_full rfl rfl rfl hd_X7_full ⟨(Nat.le_of_ble_eq_true rfl), (Nat.le_of_ble_eq_true rfl)⟩) hW (kS_in (by decide)) rfl rfl rfl hl.1 (Nat.le_of_ble_eq_true rfl) ⟨Nat.zero_le _, Nat.zero_le _⟩ dX7_word_27 (fun H locs hW => ?_)
      exact re_i hx hb hr hlocks hW (Option.some.inj hf) dX7_word_30
  · rw [if_pos q2] at hf
    refine lv_aload_n hx hb dX7_word_7 rfl (lv_at hl 0 rfl) ?_
    refine lv_bipush (v := (-2 : Int32)) hx hb dX7_word_8 (by decide) ?_
    obtain ⟨r7, σ7, hf7, hf⟩ := ss_bd_some hf
    refine rv_i S (c_X7_bad l hAD  hf7) (cwV 1 hts gX7_word_X7_bad rfl rfl rfl hd_X7_bad ⟨(Nat.le_of_ble_eq_true rfl), (Nat.le_of_ble_eq_true rfl)⟩) hW (kS_in (by decide)) rfl rfl rfl hl.1 (Nat.le_of_ble_eq_true rfl) ⟨Nat.zero_le _, Nat.zero_le _⟩ dX7_word_10 (fun H locs hW => ?_)
    exact re_i hx hb hr hlocks hW (Option.some.inj hf) dX7_word_13
def f_X7_breath (p0 : Int32) (σ : ss_M) : Option (Int32 × ss_M) :=
  ss_bd (f_X7_isBreath p0 σ) (fun r1 σ1 => if r1 = (0 : Int32) then (ss_bd (f_X7_bad (-2 : Int32) σ1) (fun r3 σ3 => some (r3, σ3))) else (some ((sG σ1 3 0), (sGu σ1 3 0 p0))))
def rm_X7_breath : Room := { frames := 4, cells := 0, slots := 0, locals := 200 }
theorem hd_X7_breath : yX7_breath.cls = RX7 ∧ yX7_breath.cls ≠ "java/lang/invoke/MethodHandle" ∧ yX7_breath.cls ≠ "java/lang/invoke/VarHandle" ∧ (parseMethodDescriptor yX7_breath.desc).map (fun d => d.parameters.length) = some 1 := by decide +kernel
set_option maxHeartbeats 4000000 in
set_option maxRecDepth 100000 in
theorem c_X7_breath (l : Launch) {D : va_G} {Y : Nat → ClassId} {A : ss_A} (hAD : AD 0 A) {p0 : Int32}  {r : Int32} {σ σ' : ss_M} (hf : f_X7_breath p0 σ = some (r, σ')) : Met l yX7_breath wsX7_breath rm_X7_breath (Pc0 0 D Y A σ [.ref (A 0 6 0), .int p0]) (Qi0 0 D Y A r σ') 0 0 (FA 0 A) := by
  rw [f_X7_breath] at hf
  refine Met0 (cc := cX7_breath) (maxL := 3) (ret := (some .int)) (own := RX7) (by decide +kernel) rfl hAD rfl (Nat.le_of_ble_eq_true rfl) ?_
  intro p e s m args below meth c S hr hlocks hW ls hl
  obtain ⟨hx, hb, hml, hown, hts⟩ := id S
  have iX7 : ∀ q ∈ wsX70, q ∈ wsX7_breath := fun q h => List.mem_cons_of_mem _ (List.mem_append_left _ (List.mem_append_right _ (h)))
  have iX4 : ∀ q ∈ wsX40, q ∈ wsX7_breath := fun q h => List.mem_cons_of_mem _ (List.mem_append_right _ (h))
  have hl : lv_has ls 3 [(0, .ref (A 0 6 0)), (1, .int p0)] := hl
  refine lv_iload_n hx hb dX7_breath_0 rfl (lv_at hl 1 rfl) ?_
  obtain ⟨r1, σ1, hf1, hf⟩ := ss_bd_some hf
  refine rt_i S (c_X7_isBreath l hAD  hf1) (va_cwS 1 hts gX7_breath_X7_isBreath rfl rfl rfl hd_X7_isBreath ⟨(Nat.le_of_ble_eq_true rfl), (Nat.le_of_ble_eq_true rfl)⟩) hW rfl rfl hl.1 (Nat.le_of_ble_eq_true rfl) ⟨Nat.zero_le _, Nat.zero_le _⟩ dX7_breath_1 (fun H locs hW => ?_)
  refine lv_if_ne (tgt := 14) hx hb dX7_breath_4 (by decide) (fun q2 => ?_) (fun q2 => ?_)
  · rw [if_neg q2] at hf
    refine lv_aload_n hx hb dX7_breath_14 rfl (lv_at hl 0 rfl) ?_
    refine gf_X7_page hx hb hts hown hW (kS_in (by decide)) iX7 (List.mem_of_getElem? (i := 1) rfl) dX7_breath_15 ?_
    refine gf_X4_breath hx hb hts hown hW (kS_in (by decide)) iX4 (List.mem_of_getElem? (i := 2) rfl) dX7_breath_18 ?_
    refine lv_istore_n (lv' := [(2, .int (sG σ1 3 0)), (0, .ref (A 0 6 0)), (1, .int p0)]) hx hb dX7_breath_21 rfl hl (by decide) rfl (fun ls hl => ?_)
    refine lv_aload_n hx hb dX7_breath_22 rfl (lv_at hl 1 rfl) ?_
    refine gf_X7_page hx hb hts hown hW (kS_in (by decide)) iX7 (List.mem_of_getElem? (i := 1) rfl) dX7_breath_23 ?_
    refine lv_iload_n hx hb dX7_breath_26 rfl (lv_at hl 2 rfl) ?_
    refine pf_X4_breath hx hb hts hown hW (kS_in (by decide)) iX4 (List.mem_of_getElem? (i := 2) rfl) dX7_breath_27 (fun H locs hW => ?_)
    refine lv_iload_n hx hb dX7_breath_30 rfl (lv_at hl 0 rfl) ?_
    exact re_i hx hb hr hlocks hW (Option.some.inj hf) dX7_breath_31
  · rw [if_pos q2] at hf
    refine lv_aload_n hx hb dX7_breath_7 rfl (lv_at hl 0 rfl) ?_
    refine lv_bipush (v := (-2 : Int32)) hx hb dX7_breath_8 (by decide) ?_
    obtain ⟨r3, σ3, hf3, hf⟩ := ss_bd_some hf
    refine rv_i S (c_X7_bad l hAD  hf3) (cwV 1 hts gX7_breath_X7_bad rfl rfl rfl hd_X7_bad ⟨(Nat.le_of_ble_eq_true rfl), (Nat.le_of_ble_eq_true rfl)⟩) hW (kS_in (by decide)) rfl rfl rfl hl.1 (Nat.le_of_ble_eq_true rfl) ⟨Nat.zero_le _, Nat.zero_le _⟩ dX7_breath_10 (fun H locs hW => ?_)
    exact re_i hx hb hr hlocks hW (Option.some.inj hf) dX7_breath_13
def f_X7_price (p0 : Int32) (σ : ss_M) : Option (Int32 × ss_M) :=
  ss_bd (f_X7_isPrice p0 σ) (fun r1 σ1 => if r1 = (0 : Int32) then (ss_bd (f_X7_bad (-2 : Int32) σ1) (fun r3 σ3 => some (r3, σ3))) else (some ((sG σ1 4 0), (sGu σ1 4 0 p0))))
def rm_X7_price : Room := { frames := 4, cells := 0, slots := 0, locals := 200 }
theorem hd_X7_price : yX7_price.cls = RX7 ∧ yX7_price.cls ≠ "java/lang/invoke/MethodHandle" ∧ yX7_price.cls ≠ "java/lang/invoke/VarHandle" ∧ (parseMethodDescriptor yX7_price.desc).map (fun d => d.parameters.length) = some 1 := by decide +kernel
set_option maxHeartbeats 4000000 in
set_option maxRecDepth 100000 in
theorem c_X7_price (l : Launch) {D : va_G} {Y : Nat → ClassId} {A : ss_A} (hAD : AD 0 A) {p0 : Int32}  {r : Int32} {σ σ' : ss_M} (hf : f_X7_price p0 σ = some (r, σ')) : Met l yX7_price wsX7_price rm_X7_price (Pc0 0 D Y A σ [.ref (A 0 6 0), .int p0]) (Qi0 0 D Y A r σ') 0 0 (FA 0 A) := by
  rw [f_X7_price] at hf
  refine Met0 (cc := cX7_price) (maxL := 3) (ret := (some .int)) (own := RX7) (by decide +kernel) rfl hAD rfl (Nat.le_of_ble_eq_true rfl) ?_
  intro p e s m args below meth c S hr hlocks hW ls hl
  obtain ⟨hx, hb, hml, hown, hts⟩ := id S
  have iX7 : ∀ q ∈ wsX70, q ∈ wsX7_price := fun q h => List.mem_cons_of_mem _ (List.mem_append_left _ (List.mem_append_right _ (h)))
  have iX4 : ∀ q ∈ wsX40, q ∈ wsX7_price := fun q h => List.mem_cons_of_mem _ (List.mem_append_right _ (h))
  have hl : lv_has ls 3 [(0, .ref (A 0 6 0)), (1, .int p0)] := hl
  refine lv_iload_n hx hb dX7_price_0 rfl (lv_at hl 1 rfl) ?_
  obtain ⟨r1, σ1, hf1, hf⟩ := ss_bd_some hf
  refine rt_i S (c_X7_isPrice l hAD  hf1) (va_cwS 1 hts gX7_price_X7_isPrice rfl rfl rfl hd_X7_isPrice ⟨(Nat.le_of_ble_eq_true rfl), (Nat.le_of_ble_eq_true rfl)⟩) hW rfl rfl hl.1 (Nat.le_of_ble_eq_true rfl) ⟨Nat.zero_le _, Nat.zero_le _⟩ dX7_price_1 (fun H locs hW => ?_)
  refine lv_if_ne (tgt := 14) hx hb dX7_price_4 (by decide) (fun q2 => ?_) (fun q2 => ?_)
  · rw [if_neg q2] at hf
    refine lv_aload_n hx hb dX7_price_14 rfl (lv_at hl 0 rfl) ?_
    refine gf_X7_page hx hb hts hown hW (kS_in (by decide)) iX7 (List.mem_of_getElem? (i := 1) rfl) dX7_price_15 ?_
    refine gf_X4_price hx hb hts hown hW (kS_in (by decide)) iX4 (List.mem_of_getElem? (i := 2) rfl) dX7_price_18 ?_
    refine lv_istore_n (lv' := [(2, .int (sG σ1 4 0)), (0, .ref (A 0 6 0)), (1, .int p0)]) hx hb dX7_price_21 rfl hl (by decide) rfl (fun ls hl => ?_)
    refine lv_aload_n hx hb dX7_price_22 rfl (lv_at hl 1 rfl) ?_
    refine gf_X7_page hx hb hts hown hW (kS_in (by decide)) iX7 (List.mem_of_getElem? (i := 1) rfl) dX7_price_23 ?_
    refine lv_iload_n hx hb dX7_price_26 rfl (lv_at hl 2 rfl) ?_
    refine pf_X4_price hx hb hts hown hW (kS_in (by decide)) iX4 (List.mem_of_getElem? (i := 2) rfl) dX7_price_27 (fun H locs hW => ?_)
    refine lv_iload_n hx hb dX7_price_30 rfl (lv_at hl 0 rfl) ?_
    exact re_i hx hb hr hlocks hW (Option.some.inj hf) dX7_price_31
  · rw [if_pos q2] at hf
    refine lv_aload_n hx hb dX7_price_7 rfl (lv_at hl 0 rfl) ?_
    refine lv_bipush (v := (-2 : Int32)) hx hb dX7_price_8 (by decide) ?_
    obtain ⟨r3, σ3, hf3, hf⟩ := ss_bd_some hf
    refine rv_i S (c_X7_bad l hAD  hf3) (cwV 1 hts gX7_price_X7_bad rfl rfl rfl hd_X7_bad ⟨(Nat.le_of_ble_eq_true rfl), (Nat.le_of_ble_eq_true rfl)⟩) hW (kS_in (by decide)) rfl rfl rfl hl.1 (Nat.le_of_ble_eq_true rfl) ⟨Nat.zero_le _, Nat.zero_le _⟩ dX7_price_10 (fun H locs hW => ?_)
    exact re_i hx hb hr hlocks hW (Option.some.inj hf) dX7_price_13
def f_X7_purse (p0 : Int32) (σ : ss_M) : Option (Int32 × ss_M) :=
  ss_bd (f_X7_isWithin p0 (0 : Int32) (999 : Int32) σ) (fun r1 σ1 => if r1 = (0 : Int32) then (ss_bd (f_X7_bad (-2 : Int32) σ1) (fun r3 σ3 => some (r3, σ3))) else (some ((sG σ1 0 0), (sGu σ1 0 0 p0))))
def rm_X7_purse : Room := { frames := 2, cells := 0, slots := 0, locals := 100 }
theorem hd_X7_purse : yX7_purse.cls = RX7 ∧ yX7_purse.cls ≠ "java/lang/invoke/MethodHandle" ∧ yX7_purse.cls ≠ "java/lang/invoke/VarHandle" ∧ (parseMethodDescriptor yX7_purse.desc).map (fun d => d.parameters.length) = some 1 := by decide +kernel
set_option maxHeartbeats 4000000 in
set_option maxRecDepth 100000 in
theorem c_X7_purse (l : Launch) {D : va_G} {Y : Nat → ClassId} {A : ss_A} (hAD : AD 0 A) {p0 : Int32}  {r : Int32} {σ σ' : ss_M} (hf : f_X7_purse p0 σ = some (r, σ')) : Met l yX7_purse wsX7_purse rm_X7_purse (Pc0 0 D Y A σ [.ref (A 0 6 0), .int p0]) (Qi0 0 D Y A r σ') 0 0 (FA 0 A) := by
  rw [f_X7_purse] at hf
  refine Met0 (cc := cX7_purse) (maxL := 3) (ret := (some .int)) (own := RX7) (by decide +kernel) rfl hAD rfl (Nat.le_of_ble_eq_true rfl) ?_
  intro p e s m args below meth c S hr hlocks hW ls hl
  obtain ⟨hx, hb, hml, hown, hts⟩ := id S
  have iX7 : ∀ q ∈ wsX70, q ∈ wsX7_purse := fun q h => List.mem_cons_of_mem _ (List.mem_append_left _ (List.mem_append_left _ (List.mem_append_right _ (h))))
  have iX4 : ∀ q ∈ wsX40, q ∈ wsX7_purse := fun q h => List.mem_cons_of_mem _ (List.mem_append_left _ (List.mem_append_right _ (h)))
  have iX2 : ∀ q ∈ wsX20, q ∈ wsX7_purse := fun q h => List.mem_cons_of_mem _ (List.mem_append_right _ (h))
  have hl : lv_has ls 3 [(0, .ref (A 0 6 0)), (1, .int p0)] := hl
  refine lv_iload_n hx hb dX7_purse_0 rfl (lv_at hl 1 rfl) ?_
  refine lv_iconst (v := (0 : Int32)) hx hb dX7_purse_1 (by decide) ?_
  refine lv_sipush (v := (999 : Int32)) hx hb dX7_purse_2 (by decide) ?_
  obtain ⟨r1, σ1, hf1, hf⟩ := ss_bd_some hf
  refine rt_i S (c_X7_isWithin l hAD  hf1) (va_cwS 3 hts gX7_purse_X7_isWithin rfl rfl rfl hd_X7_isWithin ⟨(Nat.le_of_ble_eq_true rfl), (Nat.le_of_ble_eq_true rfl)⟩) hW rfl rfl hl.1 (Nat.le_of_ble_eq_true rfl) ⟨Nat.zero_le _, Nat.zero_le _⟩ dX7_purse_5 (fun H locs hW => ?_)
  refine lv_if_ne (tgt := 18) hx hb dX7_purse_8 (by decide) (fun q2 => ?_) (fun q2 => ?_)
  · rw [if_neg q2] at hf
    refine lv_aload_n hx hb dX7_purse_18 rfl (lv_at hl 0 rfl) ?_
    refine gf_X7_page hx hb hts hown hW (kS_in (by decide)) iX7 (List.mem_of_getElem? (i := 1) rfl) dX7_purse_19 ?_
    refine gf_X4_marks hx hb hts hown hW (kS_in (by decide)) iX4 (List.mem_of_getElem? (i := 2) rfl) dX7_purse_22 ?_
    refine gf_X2_purse hx hb hts hown hW (kS_in (by decide)) iX2 (List.mem_of_getElem? (i := 3) rfl) dX7_purse_25 ?_
    refine lv_istore_n (lv' := [(2, .int (sG σ1 0 0)), (0, .ref (A 0 6 0)), (1, .int p0)]) hx hb dX7_purse_28 rfl hl (by decide) rfl (fun ls hl => ?_)
    refine lv_aload_n hx hb dX7_purse_29 rfl (lv_at hl 1 rfl) ?_
    refine gf_X7_page hx hb hts hown hW (kS_in (by decide)) iX7 (List.mem_of_getElem? (i := 1) rfl) dX7_purse_30 ?_
    refine gf_X4_marks hx hb hts hown hW (kS_in (by decide)) iX4 (List.mem_of_getElem? (i := 2) rfl) dX7_purse_33 ?_
    refine lv_iload_n hx hb dX7_purse_36 rfl (lv_at hl 2 rfl) ?_
    refine pf_X2_purse hx hb hts hown hW (kS_in (by decide)) iX2 (List.mem_of_getElem? (i := 3) rfl) dX7_purse_37 (fun H locs hW => ?_)
    refine lv_iload_n hx hb dX7_purse_40 rfl (lv_at hl 0 rfl) ?_
    exact re_i hx hb hr hlocks hW (Option.some.inj hf) dX7_purse_41
  · rw [if_pos q2] at hf
    refine lv_aload_n hx hb dX7_purse_11 rfl (lv_at hl 0 rfl) ?_
    refine lv_bipush (v := (-2 : Int32)) hx hb dX7_purse_12 (by decide) ?_
    obtain ⟨r3, σ3, hf3, hf⟩ := ss_bd_some hf
    refine rv_i S (c_X7_bad l hAD  hf3) (cwV 1 hts gX7_purse_X7_bad rfl rfl rfl hd_X7_bad ⟨(Nat.le_of_ble_eq_true rfl), (Nat.le_of_ble_eq_true rfl)⟩) hW (kS_in (by decide)) rfl rfl rfl hl.1 (Nat.le_of_ble_eq_true rfl) ⟨Nat.zero_le _, Nat.zero_le _⟩ dX7_purse_14 (fun H locs hW => ?_)
    exact re_i hx hb hr hlocks hW (Option.some.inj hf) dX7_purse_17
def f_X7_put_j18 (σ18_ : ss_M) : Option (Int32 × ss_M) :=
  ss_bd (f_X7_bad (-10 : Int32) σ18_) (fun r2 σ2 => some (r2, σ2))
def f_X7_put (p0 : Int32) (p1 : Int32) (σ : ss_M) : Option (Int32 × ss_M) :=
  ss_bd (f_X4_has 0 p0 σ) (fun r1 σ1 => if r1 = (0 : Int32) then (f_X7_put_j18 σ1) else (ss_bd (f_X1_isOne p1 σ1) (fun r4 σ4 => if r4 = (0 : Int32) then (f_X7_put_j18 σ4) else (if gd p0 12 = true then (Option.bind (f_X4_setMark 0 p0 p1 σ4) (fun σ7 => some ((sA σ4 0 0 (p0).toNatClampNeg), σ7))) else none))))
def rm_X7_put : Room := { frames := 4, cells := 0, slots := 0, locals := 200 }
theorem hd_X7_put : yX7_put.cls = RX7 ∧ yX7_put.cls ≠ "java/lang/invoke/MethodHandle" ∧ yX7_put.cls ≠ "java/lang/invoke/VarHandle" ∧ (parseMethodDescriptor yX7_put.desc).map (fun d => d.parameters.length) = some 2 := by decide +kernel
set_option maxHeartbeats 4000000 in
set_option maxRecDepth 100000 in
theorem c_X7_put (l : Launch) {D : va_G} {Y : Nat → ClassId} {A : ss_A} (hAD : AD 0 A) {p0 : Int32} {p1 : Int32}  {r : Int32} {σ σ' : ss_M} (hf : f_X7_put p0 p1 σ = some (r, σ')) : Met l yX7_put wsX7_put rm_X7_put (Pc0 0 D Y A σ [.ref (A 0 6 0), .int p0, .int p1]) (Qi0 0 D Y A r σ') 0 0 (FA 0 A) := by
  rw [f_X7_put] at hf
  refine Met0 (cc := cX7_put) (maxL := 4) (ret := (some .int)) (own := RX7) (by decide +kernel) rfl hAD rfl (Nat.le_of_ble_eq_true rfl) ?_
  intro p e s m args below meth c S hr hlocks hW ls hl
  obtain ⟨hx, hb, hml, hown, hts⟩ := id S
  have iX7 : ∀ q ∈ wsX70, q ∈ wsX7_put := fun q h => List.mem_cons_of_mem _ (List.mem_append_left _ (List.mem_append_left _ (List.mem_append_right _ (h))))
  have iX4 : ∀ q ∈ wsX40, q ∈ wsX7_put := fun q h => List.mem_cons_of_mem _ (List.mem_append_left _ (List.mem_append_right _ (h)))
  have iX2 : ∀ q ∈ wsX20, q ∈ wsX7_put := fun q h => List.mem_cons_of_mem _ (List.mem_append_right _ (h))
  have hl : lv_has ls 4 [(0, .ref (A 0 6 0)), (1, .int p0), (2, .int p1)] := hl
  refine lv_aload_n hx hb dX7_put_0 rfl (lv_at hl 0 rfl) ?_
  refine gf_X7_page hx hb hts hown hW (kS_in (by decide)) iX7 (List.mem_of_getElem? (i := 1) rfl) dX7_put_1 ?_
  refine lv_iload_n hx hb dX7_put_4 rfl (lv_at hl 1 rfl) ?_
  obtain ⟨r1, σ1, hf1, hf⟩ := ss_bd_some hf
  refine rv_i S (c_X4_has l hAD (by decide) hf1) (cwV 1 hts gX7_put_X4_has rfl rfl rfl hd_X4_has ⟨(Nat.le_of_ble_eq_true rfl), (Nat.le_of_ble_eq_true rfl)⟩) hW (kS_in (by decide)) rfl rfl rfl hl.1 (Nat.le_of_ble_eq_true rfl) ⟨Nat.zero_le _, Nat.zero_le _⟩ dX7_put_5 (fun H locs hW => ?_)
  have J18 : ∀ (σ18_ : ss_M) (H : Heap) (locs : List Loc) (ls : Array Slot), sW 0 D Y A σ18_ s s.heap H locs → lv_has ls 4 [(0, .ref (A 0 6 0))] → f_X7_put_j18 σ18_ = some (r, σ') → W p l e rm_X7_put s m args below meth c H locs 0 0 (MQ below (Qi0 0 D Y A r σ') args s 0 0 (FA 0 A)) (F0 m 18 ls []) := by
    intro σ18_ H locs ls hW hl hf
    rw [f_X7_put_j18] at hf
    refine lv_aload_n hx hb dX7_put_18 rfl (lv_at hl 0 rfl) ?_
    refine lv_bipush (v := (-10 : Int32)) hx hb dX7_put_19 (by decide) ?_
    obtain ⟨r2, σ2, hf2, hf⟩ := ss_bd_some hf
    refine rv_i S (c_X7_bad l hAD  hf2) (cwV 1 hts gX7_put_X7_bad rfl rfl rfl hd_X7_bad ⟨(Nat.le_of_ble_eq_true rfl), (Nat.le_of_ble_eq_true rfl)⟩) hW (kS_in (by decide)) rfl rfl rfl hl.1 (Nat.le_of_ble_eq_true rfl) ⟨Nat.zero_le _, Nat.zero_le _⟩ dX7_put_21 (fun H locs hW => ?_)
    exact re_i hx hb hr hlocks hW (Option.some.inj hf) dX7_put_24
  refine lv_if_eq (tgt := 18) hx hb dX7_put_8 (by decide) (fun q3 => ?_) (fun q3 => ?_)
  · rw [if_pos q3] at hf
    exact J18 σ1 _ _ _ hW (lv_sub hl [0] rfl) hf
  · rw [if_neg q3] at hf
    refine lv_iload_n hx hb dX7_put_11 rfl (lv_at hl 2 rfl) ?_
    obtain ⟨r4, σ4, hf4, hf⟩ := ss_bd_some hf
    refine rt_i S (c_X1_isOne l hAD  hf4) (va_cwS 1 hts gX7_put_X1_isOne rfl rfl rfl hd_X1_isOne ⟨(Nat.le_of_ble_eq_true rfl), (Nat.le_of_ble_eq_true rfl)⟩) hW rfl rfl hl.1 (Nat.le_of_ble_eq_true rfl) ⟨Nat.zero_le _, Nat.zero_le _⟩ dX7_put_12 (fun H locs hW => ?_)
    refine lv_if_ne (tgt := 25) hx hb dX7_put_15 (by decide) (fun q5 => ?_) (fun q5 => ?_)
    · rw [if_neg q5] at hf
      refine lv_aload_n hx hb dX7_put_25 rfl (lv_at hl 0 rfl) ?_
      refine gf_X7_page hx hb hts hown hW (kS_in (by decide)) iX7 (List.mem_of_getElem? (i := 1) rfl) dX7_put_26 ?_
      refine gf_X4_marks hx hb hts hown hW (kS_in (by decide)) iX4 (List.mem_of_getElem? (i := 2) rfl) dX7_put_29 ?_
      refine gf_X2_kinds hx hb hts hown hW (kS_in (by decide)) iX2 (List.mem_of_getElem? (i := 3) rfl) dX7_put_32 ?_
      refine lv_iload_n hx hb dX7_put_35 rfl (lv_at hl 1 rfl) ?_
      obtain ⟨g6, hf⟩ := ss_if hf
      refine ra_i hx hb hW (kS_in (by decide)) g6 dX7_put_36 ?_
      refine lv_istore_n (lv' := [(3, .int (sA σ4 0 0 (p0).toNatClampNeg)), (0, .ref (A 0 6 0)), (1, .int p0), (2, .int p1)]) hx hb dX7_put_37 rfl hl (by decide) rfl (fun ls hl => ?_)
      refine lv_aload_n hx hb dX7_put_38 rfl (lv_at hl 1 rfl) ?_
      refine gf_X7_page hx hb hts hown hW (kS_in (by decide)) iX7 (List.mem_of_getElem? (i := 1) rfl) dX7_put_39 ?_
      refine lv_iload_n hx hb dX7_put_42 rfl (lv_at hl 2 rfl) ?_
      refine lv_iload_n hx hb dX7_put_43 rfl (lv_at hl 3 rfl) ?_
      obtain ⟨σ7, hf7, hf⟩ := ss_bind hf
      refine rv_v S (c_X4_setMark l hAD (by decide) hf7) (cwV 2 hts gX7_put_X4_setMark rfl rfl rfl hd_X4_setMark ⟨(Nat.le_of_ble_eq_true rfl), (Nat.le_of_ble_eq_true rfl)⟩) hW (kS_in (by decide)) rfl rfl rfl hl.1 (Nat.le_of_ble_eq_true rfl) ⟨Nat.zero_le _, Nat.zero_le _⟩ dX7_put_44 (fun H locs hW => ?_)
      refine lv_iload_n hx hb dX7_put_47 rfl (lv_at hl 0 rfl) ?_
      exact re_i hx hb hr hlocks hW (Option.some.inj hf) dX7_put_48
    · rw [if_pos q5] at hf
      exact J18 σ4 _ _ _ hW (lv_sub hl [0] rfl) hf
def f_X7_type (p0 : Int32) (σ : ss_M) : Option (Int32 × ss_M) :=
  ss_bd (f_X7_isWithin p0 (0 : Int32) (127 : Int32) σ) (fun r1 σ1 => if r1 = (0 : Int32) then (ss_bd (f_X7_bad (-2 : Int32) σ1) (fun r6 σ6 => some (r6, σ6))) else (if (sG σ1 8 0) < (150 : Int32) then (Option.bind (f_X6_add p0 σ1) (fun σ4 => some ((sG σ4 8 0), σ4))) else (ss_bd (f_X7_full (-4 : Int32) σ1) (fun r5 σ5 => some (r5, σ5)))))
def rm_X7_type : Room := { frames := 2, cells := 0, slots := 0, locals := 100 }
theorem hd_X7_type : yX7_type.cls = RX7 ∧ yX7_type.cls ≠ "java/lang/invoke/MethodHandle" ∧ yX7_type.cls ≠ "java/lang/invoke/VarHandle" ∧ (parseMethodDescriptor yX7_type.desc).map (fun d => d.parameters.length) = some 1 := by decide +kernel
set_option maxHeartbeats 4000000 in
set_option maxRecDepth 100000 in
theorem c_X7_type (l : Launch) {D : va_G} {Y : Nat → ClassId} {A : ss_A} (hAD : AD 0 A) {p0 : Int32}  {r : Int32} {σ σ' : ss_M} (hf : f_X7_type p0 σ = some (r, σ')) : Met l yX7_type wsX7_type rm_X7_type (Pc0 0 D Y A σ [.ref (A 0 6 0), .int p0]) (Qi0 0 D Y A r σ') 0 0 (FA 0 A) := by
  rw [f_X7_type] at hf
  refine Met0 (cc := cX7_type) (maxL := 2) (ret := (some .int)) (own := RX7) (by decide +kernel) rfl hAD rfl (Nat.le_of_ble_eq_true rfl) ?_
  intro p e s m args below meth c S hr hlocks hW ls hl
  obtain ⟨hx, hb, hml, hown, hts⟩ := id S
  have iX7 : ∀ q ∈ wsX70, q ∈ wsX7_type := fun q h => List.mem_cons_of_mem _ (List.mem_append_left _ (List.mem_append_right _ (h)))
  have iX6 : ∀ q ∈ wsX60, q ∈ wsX7_type := fun q h => List.mem_cons_of_mem _ (List.mem_append_right _ (h))
  have hl : lv_has ls 2 [(0, .ref (A 0 6 0)), (1, .int p0)] := hl
  refine lv_iload_n hx hb dX7_type_0 rfl (lv_at hl 1 rfl) ?_
  refine lv_iconst (v := (0 : Int32)) hx hb dX7_type_1 (by decide) ?_
  refine lv_bipush (v := (127 : Int32)) hx hb dX7_type_2 (by decide) ?_
  obtain ⟨r1, σ1, hf1, hf⟩ := ss_bd_some hf
  refine rt_i S (c_X7_isWithin l hAD  hf1) (va_cwS 3 hts gX7_type_X7_isWithin rfl rfl rfl hd_X7_isWithin ⟨(Nat.le_of_ble_eq_true rfl), (Nat.le_of_ble_eq_true rfl)⟩) hW rfl rfl hl.1 (Nat.le_of_ble_eq_true rfl) ⟨Nat.zero_le _, Nat.zero_le _⟩ dX7_type_4 (fun H locs hW => ?_)
  refine lv_if_ne (tgt := 17) hx hb dX7_type_7 (by decide) (fun q2 => ?_) (fun q2 => ?_)
  · rw [if_neg q2] at hf
    refine lv_aload_n hx hb dX7_type_17 rfl (lv_at hl 0 rfl) ?_
    refine gf_X7_text hx hb hts hown hW (kS_in (by decide)) iX7 (List.mem_of_getElem? (i := 1) rfl) dX7_type_18 ?_
    refine gf_X6_size hx hb hts hown hW (kS_in (by decide)) iX6 (List.mem_of_getElem? (i := 2) rfl) dX7_type_21 ?_
    refine lv_sipush (v := (150 : Int32)) hx hb dX7_type_24 (by decide) ?_
    refine lv_icmp_lt (tgt := 37) hx hb dX7_type_27 (by decide) (fun q3 => ?_) (fun q3 => ?_)
    · rw [if_pos q3] at hf
      refine lv_aload_n hx hb dX7_type_37 rfl (lv_at hl 0 rfl) ?_
      refine gf_X7_text hx hb hts hown hW (kS_in (by decide)) iX7 (List.mem_of_getElem? (i := 1) rfl) dX7_type_38 ?_
      refine lv_iload_n hx hb dX7_type_41 rfl (lv_at hl 1 rfl) ?_
      obtain ⟨σ4, hf4, hf⟩ := ss_bind hf
      refine rv_v S (c_X6_add l hAD  hf4) (cwV 1 hts gX7_type_X6_add rfl rfl rfl hd_X6_add ⟨(Nat.le_of_ble_eq_true rfl), (Nat.le_of_ble_eq_true rfl)⟩) hW (kS_in (by decide)) rfl rfl rfl hl.1 (Nat.le_of_ble_eq_true rfl) ⟨Nat.zero_le _, Nat.zero_le _⟩ dX7_type_42 (fun H locs hW => ?_)
      refine lv_aload_n hx hb dX7_type_45 rfl (lv_at hl 0 rfl) ?_
      refine gf_X7_text hx hb hts hown hW (kS_in (by decide)) iX7 (List.mem_of_getElem? (i := 1) rfl) dX7_type_46 ?_
      refine gf_X6_size hx hb hts hown hW (kS_in (by decide)) iX6 (List.mem_of_getElem? (i := 2) rfl) dX7_type_49 ?_
      exact re_i hx hb hr hlocks hW (Option.some.inj hf) dX7_type_52
    · rw [if_neg q3] at hf
      refine lv_aload_n hx hb dX7_type_30 rfl (lv_at hl 0 rfl) ?_
      refine lv_bipush (v := (-4 : Int32)) hx hb dX7_type_31 (by decide) ?_
      obtain ⟨r5, σ5, hf5, hf⟩ := ss_bd_some hf
      refine rv_i S (c_X7_full l hAD  hf5) (cwV 1 hts gX7_type_X7_full rfl rfl rfl hd_X7_full ⟨(Nat.le_of_ble_eq_true rfl), (Nat.le_of_ble_eq_true rfl)⟩) hW (kS_in (by decide)) rfl rfl rfl hl.1 (Nat.le_of_ble_eq_true rfl) ⟨Nat.zero_le _, Nat.zero_le _⟩ dX7_type_33 (fun H locs hW => ?_)
      exact re_i hx hb hr hlocks hW (Option.some.inj hf) dX7_type_36
  · rw [if_pos q2] at hf
    refine lv_aload_n hx hb dX7_type_10 rfl (lv_at hl 0 rfl) ?_
    refine lv_bipush (v := (-2 : Int32)) hx hb dX7_type_11 (by decide) ?_
    obtain ⟨r6, σ6, hf6, hf⟩ := ss_bd_some hf
    refine rv_i S (c_X7_bad l hAD  hf6) (cwV 1 hts gX7_type_X7_bad rfl rfl rfl hd_X7_bad ⟨(Nat.le_of_ble_eq_true rfl), (Nat.le_of_ble_eq_true rfl)⟩) hW (kS_in (by decide)) rfl rfl rfl hl.1 (Nat.le_of_ble_eq_true rfl) ⟨Nat.zero_le _, Nat.zero_le _⟩ dX7_type_13 (fun H locs hW => ?_)
    exact re_i hx hb hr hlocks hW (Option.some.inj hf) dX7_type_16
def f_X7_clear (σ : ss_M) : Option (Int32 × ss_M) :=
  some ((sG σ 8 0), (sGu σ 8 0 (0 : Int32)))
def rm_X7_clear : Room := { frames := 0, cells := 0, slots := 0, locals := 0 }
theorem hd_X7_clear : yX7_clear.cls = RX7 ∧ yX7_clear.cls ≠ "java/lang/invoke/MethodHandle" ∧ yX7_clear.cls ≠ "java/lang/invoke/VarHandle" ∧ (parseMethodDescriptor yX7_clear.desc).map (fun d => d.parameters.length) = some 0 := by decide +kernel
set_option maxHeartbeats 4000000 in
set_option maxRecDepth 100000 in
theorem c_X7_clear (l : Launch) {D : va_G} {Y : Nat → ClassId} {A : ss_A} (hAD : AD 0 A)   {r : Int32} {σ σ' : ss_M} (hf : f_X7_clear σ = some (r, σ')) : Met l yX7_clear wsX7_clear rm_X7_clear (Pc0 0 D Y A σ [.ref (A 0 6 0)]) (Qi0 0 D Y A r σ') 0 0 (FA 0 A) := by
  rw [f_X7_clear] at hf
  refine Met0 (cc := cX7_clear) (maxL := 2) (ret := (some .int)) (own := RX7) (by decide +kernel) rfl hAD rfl (Nat.le_of_ble_eq_true rfl) ?_
  intro p e s m args below meth c S hr hlocks hW ls hl
  obtain ⟨hx, hb, hml, hown, hts⟩ := id S
  have iX7 : ∀ q ∈ wsX70, q ∈ wsX7_clear := fun q h => List.mem_cons_of_mem _ (List.mem_append_left _ (List.mem_append_right _ (h)))
  have iX6 : ∀ q ∈ wsX60, q ∈ wsX7_clear := fun q h => List.mem_cons_of_mem _ (List.mem_append_right _ (h))
  have hl : lv_has ls 2 [(0, .ref (A 0 6 0))] := hl
  refine lv_aload_n hx hb dX7_clear_0 rfl (lv_at hl 0 rfl) ?_
  refine gf_X7_text hx hb hts hown hW (kS_in (by decide)) iX7 (List.mem_of_getElem? (i := 1) rfl) dX7_clear_1 ?_
  refine gf_X6_size hx hb hts hown hW (kS_in (by decide)) iX6 (List.mem_of_getElem? (i := 2) rfl) dX7_clear_4 ?_
  refine lv_istore_n (lv' := [(1, .int (sG σ 8 0)), (0, .ref (A 0 6 0))]) hx hb dX7_clear_7 rfl hl (by decide) rfl (fun ls hl => ?_)
  refine lv_aload_n hx hb dX7_clear_8 rfl (lv_at hl 1 rfl) ?_
  refine gf_X7_text hx hb hts hown hW (kS_in (by decide)) iX7 (List.mem_of_getElem? (i := 1) rfl) dX7_clear_9 ?_
  refine lv_iconst (v := (0 : Int32)) hx hb dX7_clear_12 (by decide) ?_
  refine pf_X6_size hx hb hts hown hW (kS_in (by decide)) iX6 (List.mem_of_getElem? (i := 2) rfl) dX7_clear_13 (fun H locs hW => ?_)
  refine lv_iload_n hx hb dX7_clear_16 rfl (lv_at hl 0 rfl) ?_
  exact re_i hx hb hr hlocks hW (Option.some.inj hf) dX7_clear_17
def f_X7_tellItem (p0 : Int32) (σ : ss_M) : Option (Int32 × ss_M) :=
  if gd p0 150 = true then (if gd p0 150 = true then (if gd p0 150 = true then (if (sA σ 12 0 (p0).toNatClampNeg) = (1 : Int32) then (ss_bd (f_X7_isBreath (sA σ 13 0 (p0).toNatClampNeg) σ) (fun r5 σ5 => if r5 = (0 : Int32) then (some ((0 : Int32), σ5)) else (ss_bd (f_X7_isPrice (sA σ 14 0 (p0).toNatClampNeg) σ5) (fun r7 σ7 => if r7 = (0 : Int32) then (some ((0 : Int32), σ7)) else (Option.bind (f_X4_begin 1 (sA σ 13 0 (p0).toNatClampNeg) (sA σ 14 0 (p0).toNatClampNeg) σ7) (fun σ9 => some ((1 : Int32), σ9))))))) else if (sA σ 12 0 (p0).toNatClampNeg) = (2 : Int32) then (ss_bd (f_X7_isLength (sA σ 13 0 (p0).toNatClampNeg) σ) (fun r11 σ11 => if r11 = (0 : Int32) then (some ((0 : Int32), σ11)) else (ss_bd (f_X4_hasRoom 1 σ11) (fun r13 σ13 => if r13 = (0 : Int32) then (some ((0 : Int32), σ13)) else (Option.bind (f_X4_addWord 1 (sA σ 13 0 (p0).toNatClampNeg) σ13) (fun σ15 => some ((1 : Int32), σ15))))))) else (ss_bd (f_X4_has 1 (sA σ 13 0 (p0).toNatClampNeg) σ) (fun r16 σ16 => if r16 = (0 : Int32) then (some ((0 : Int32), σ16)) else (ss_bd (f_X1_isOne (sA σ 14 0 (p0).toNatClampNeg) σ16) (fun r18 σ18 => if r18 = (0 : Int32) then (some ((0 : Int32), σ18)) else (Option.bind (f_X4_setMark 1 (sA σ 13 0 (p0).toNatClampNeg) (sA σ 14 0 (p0).toNatClampNeg) σ18) (fun σ20 => some ((1 : Int32), σ20)))))))) else none) else none) else none
def rm_X7_tellItem : Room := { frames := 4, cells := 0, slots := 0, locals := 200 }
theorem hd_X7_tellItem : yX7_tellItem.cls = RX7 ∧ yX7_tellItem.cls ≠ "java/lang/invoke/MethodHandle" ∧ yX7_tellItem.cls ≠ "java/lang/invoke/VarHandle" ∧ (parseMethodDescriptor yX7_tellItem.desc).map (fun d => d.parameters.length) = some 1 := by decide +kernel
set_option maxHeartbeats 4000000 in
set_option maxRecDepth 100000 in
theorem c_X7_tellItem (l : Launch) {D : va_G} {Y : Nat → ClassId} {A : ss_A} (hAD : AD 0 A) {p0 : Int32}  {r : Int32} {σ σ' : ss_M} (hf : f_X7_tellItem p0 σ = some (r, σ')) : Met l yX7_tellItem wsX7_tellItem rm_X7_tellItem (Pc0 0 D Y A σ [.ref (A 0 6 0), .int p0]) (Qi0 0 D Y A r σ') 0 0 (FA 0 A) := by
  rw [f_X7_tellItem] at hf
  refine Met0 (cc := cX7_tellItem) (maxL := 4) (ret := (some .boolean)) (own := RX7) (by decide +kernel) rfl hAD rfl (Nat.le_of_ble_eq_true rfl) ?_
  intro p e s m args below meth c S hr hlocks hW ls hl
  obtain ⟨hx, hb, hml, hown, hts⟩ := id S
  have iX7 : ∀ q ∈ wsX70, q ∈ wsX7_tellItem := fun q h => List.mem_cons_of_mem _ (List.mem_append_left _ (List.mem_append_left _ (List.mem_append_left _ (List.mem_append_right _ (h)))))
  have iX6 : ∀ q ∈ wsX60, q ∈ wsX7_tellItem := fun q h => List.mem_cons_of_mem _ (List.mem_append_left _ (List.mem_append_left _ (List.mem_append_right _ (h))))
  have hl : lv_has ls 4 [(0, .ref (A 0 6 0)), (1, .int p0)] := hl
  refine lv_aload_n hx hb dX7_tellItem_0 rfl (lv_at hl 0 rfl) ?_
  refine gf_X7_text hx hb hts hown hW (kS_in (by decide)) iX7 (List.mem_of_getElem? (i := 1) rfl) dX7_tellItem_1 ?_
  refine gf_X6_firsts hx hb hts hown hW (kS_in (by decide)) iX6 (List.mem_of_getElem? (i := 2) rfl) dX7_tellItem_4 ?_
  refine lv_iload_n hx hb dX7_tellItem_7 rfl (lv_at hl 1 rfl) ?_
  obtain ⟨g1, hf⟩ := ss_if hf
  refine ra_i hx hb hW (kS_in (by decide)) g1 dX7_tellItem_8 ?_
  refine lv_istore_n (lv' := [(2, .int (sA σ 13 0 (p0).toNatClampNeg)), (0, .ref (A 0 6 0)), (1, .int p0)]) hx hb dX7_tellItem_9 rfl hl (by decide) rfl (fun ls hl => ?_)
  refine lv_aload_n hx hb dX7_tellItem_10 rfl (lv_at hl 1 rfl) ?_
  refine gf_X7_text hx hb hts hown hW (kS_in (by decide)) iX7 (List.mem_of_getElem? (i := 1) rfl) dX7_tellItem_11 ?_
  refine gf_X6_seconds hx hb hts hown hW (kS_in (by decide)) iX6 (List.mem_of_getElem? (i := 3) rfl) dX7_tellItem_14 ?_
  refine lv_iload_n hx hb dX7_tellItem_17 rfl (lv_at hl 2 rfl) ?_
  obtain ⟨g2, hf⟩ := ss_if hf
  refine ra_i hx hb hW (kS_in (by decide)) g2 dX7_tellItem_18 ?_
  refine lv_istore_n (lv' := [(3, .int (sA σ 14 0 (p0).toNatClampNeg)), (2, .int (sA σ 13 0 (p0).toNatClampNeg)), (0, .ref (A 0 6 0)), (1, .int p0)]) hx hb dX7_tellItem_19 rfl hl (by decide) rfl (fun ls hl => ?_)
  refine lv_aload_n hx hb dX7_tellItem_20 rfl (lv_at hl 2 rfl) ?_
  refine gf_X7_text hx hb hts hown hW (kS_in (by decide)) iX7 (List.mem_of_getElem? (i := 1) rfl) dX7_tellItem_21 ?_
  refine gf_X6_whats hx hb hts hown hW (kS_in (by decide)) iX6 (List.mem_of_getElem? (i := 4) rfl) dX7_tellItem_24 ?_
  refine lv_iload_n hx hb dX7_tellItem_27 rfl (lv_at hl 3 rfl) ?_
  obtain ⟨g3, hf⟩ := ss_if hf
  refine ra_i hx hb hW (kS_in (by decide)) g3 dX7_tellItem_28 ?_
  by_cases q4 : (sA σ 12 0 (p0).toNatClampNeg) = (1 : Int32)
  · rw [if_pos q4] at hf
    refine lv_lookup (off := 27) (tgt := 56) hx hb dX7_tellItem_29 (by decide) (by rw [q4]; decide) (by decide) ?_
    refine lv_iload_n hx hb dX7_tellItem_56 rfl (lv_at hl 1 rfl) ?_
    obtain ⟨r5, σ5, hf5, hf⟩ := ss_bd_some hf
    refine rt_i S (c_X7_isBreath l hAD  hf5) (va_cwS 1 hts gX7_tellItem_X7_isBreath rfl rfl rfl hd_X7_isBreath ⟨(Nat.le_of_ble_eq_true rfl), (Nat.le_of_ble_eq_true rfl)⟩) hW rfl rfl hl.1 (Nat.le_of_ble_eq_true rfl) ⟨Nat.zero_le _, Nat.zero_le _⟩ dX7_tellItem_57 (fun H locs hW => ?_)
    refine lv_if_eq (tgt := 70) hx hb dX7_tellItem_60 (by decide) (fun q6 => ?_) (fun q6 => ?_)
    · rw [if_pos q6] at hf
      refine lv_iconst (v := (0 : Int32)) hx hb dX7_tellItem_70 (by decide) ?_
      exact re_z hx hb hr hlocks hW (by decide) (Option.some.inj hf) dX7_tellItem_71
    · rw [if_neg q6] at hf
      refine lv_iload_n hx hb dX7_tellItem_63 rfl (lv_at hl 0 rfl) ?_
      obtain ⟨r7, σ7, hf7, hf⟩ := ss_bd_some hf
      refine rt_i S (c_X7_isPrice l hAD  hf7) (va_cwS 1 hts gX7_tellItem_X7_isPrice rfl rfl rfl hd_X7_isPrice ⟨(Nat.le_of_ble_eq_true rfl), (Nat.le_of_ble_eq_true rfl)⟩) hW rfl rfl hl.1 (Nat.le_of_ble_eq_true rfl) ⟨Nat.zero_le _, Nat.zero_le _⟩ dX7_tellItem_64 (fun H locs hW => ?_)
      refine lv_if_ne (tgt := 72) hx hb dX7_tellItem_67 (by decide) (fun q8 => ?_) (fun q8 => ?_)
      · rw [if_neg q8] at hf
        refine lv_aload_n hx hb dX7_tellItem_72 rfl (lv_at hl 2 rfl) ?_
        refine gf_X7_spare hx hb hts hown hW (kS_in (by decide)) iX7 (List.mem_of_getElem? (i := 5) rfl) dX7_tellItem_73 ?_
        refine lv_iload_n hx hb dX7_tellItem_76 rfl (lv_at hl 1 rfl) ?_
        refine lv_iload_n hx hb dX7_tellItem_77 rfl (lv_at hl 0 rfl) ?_
        obtain ⟨σ9, hf9, hf⟩ := ss_bind hf
        refine rv_v S (c_X4_begin l hAD (by decide) hf9) (cwV 2 hts gX7_tellItem_X4_begin rfl rfl rfl hd_X4_begin ⟨(Nat.le_of_ble_eq_true rfl), (Nat.le_of_ble_eq_true rfl)⟩) hW (kS_in (by decide)) rfl rfl rfl hl.1 (Nat.le_of_ble_eq_true rfl) ⟨Nat.zero_le _, Nat.zero_le _⟩ dX7_tellItem_78 (fun H locs hW => ?_)
        refine lv_iconst (v := (1 : Int32)) hx hb dX7_tellItem_81 (by decide) ?_
        exact re_z hx hb hr hlocks hW (by decide) (Option.some.inj hf) dX7_tellItem_82
      · rw [if_pos q8] at hf
        refine lv_iconst (v := (0 : Int32)) hx hb dX7_tellItem_70 (by decide) ?_
        exact re_z hx hb hr hlocks hW (by decide) (Option.some.inj hf) dX7_tellItem_71
  · rw [if_neg q4] at hf
    by_cases q10 : (sA σ 12 0 (p0).toNatClampNeg) = (2 : Int32)
    · rw [if_pos q10] at hf
      refine lv_lookup (off := 54) (tgt := 83) hx hb dX7_tellItem_29 (by decide) (by rw [q10]; decide) (by decide) ?_
      refine lv_iload_n hx hb dX7_tellItem_83 rfl (lv_at hl 1 rfl) ?_
      obtain ⟨r11, σ11, hf11, hf⟩ := ss_bd_some hf
      refine rt_i S (c_X7_isLength l hAD  hf11) (va_cwS 1 hts gX7_tellItem_X7_isLength rfl rfl rfl hd_X7_isLength ⟨(Nat.le_of_ble_eq_true rfl), (Nat.le_of_ble_eq_true rfl)⟩) hW rfl rfl hl.1 (Nat.le_of_ble_eq_true rfl) ⟨Nat.zero_le _, Nat.zero_le _⟩ dX7_tellItem_84 (fun H locs hW => ?_)
      refine lv_if_eq (tgt := 100) hx hb dX7_tellItem_87 (by decide) (fun q12 => ?_) (fun q12 => ?_)
      · rw [if_pos q12] at hf
        refine lv_iconst (v := (0 : Int32)) hx hb dX7_tellItem_100 (by decide) ?_
        exact re_z hx hb hr hlocks hW (by decide) (Option.some.inj hf) dX7_tellItem_101
      · rw [if_neg q12] at hf
        refine lv_aload_n hx hb dX7_tellItem_90 rfl (lv_at hl 2 rfl) ?_
        refine gf_X7_spare hx hb hts hown hW (kS_in (by decide)) iX7 (List.mem_of_getElem? (i := 5) rfl) dX7_tellItem_91 ?_
        obtain ⟨r13, σ13, hf13, hf⟩ := ss_bd_some hf
        refine rv_i S (c_X4_hasRoom l hAD (by decide) hf13) (cwV 0 hts gX7_tellItem_X4_hasRoom rfl rfl rfl hd_X4_hasRoom ⟨(Nat.le_of_ble_eq_true rfl), (Nat.le_of_ble_eq_true rfl)⟩) hW (kS_in (by decide)) rfl rfl rfl hl.1 (Nat.le_of_ble_eq_true rfl) ⟨Nat.zero_le _, Nat.zero_le _⟩ dX7_tellItem_94 (fun H locs hW => ?_)
        refine lv_if_ne (tgt := 102) hx hb dX7_tellItem_97 (by decide) (fun q14 => ?_) (fun q14 => ?_)
        · rw [if_neg q14] at hf
          refine lv_aload_n hx hb dX7_tellItem_102 rfl (lv_at hl 2 rfl) ?_
          refine gf_X7_spare hx hb hts hown hW (kS_in (by decide)) iX7 (List.mem_of_getElem? (i := 5) rfl) dX7_tellItem_103 ?_
          refine lv_iload_n hx hb dX7_tellItem_106 rfl (lv_at hl 1 rfl) ?_
          obtain ⟨σ15, hf15, hf⟩ := ss_bind hf
          refine rv_v S (c_X4_addWord l hAD (by decide) hf15) (cwV 1 hts gX7_tellItem_X4_addWord rfl rfl rfl hd_X4_addWord ⟨(Nat.le_of_ble_eq_true rfl), (Nat.le_of_ble_eq_true rfl)⟩) hW (kS_in (by decide)) rfl rfl rfl hl.1 (Nat.le_of_ble_eq_true rfl) ⟨Nat.zero_le _, Nat.zero_le _⟩ dX7_tellItem_107 (fun H locs hW => ?_)
          refine lv_iconst (v := (1 : Int32)) hx hb dX7_tellItem_110 (by decide) ?_
          exact re_z hx hb hr hlocks hW (by decide) (Option.some.inj hf) dX7_tellItem_111
        · rw [if_pos q14] at hf
          refine lv_iconst (v := (0 : Int32)) hx hb dX7_tellItem_100 (by decide) ?_
          exact re_z hx hb hr hlocks hW (by decide) (Option.some.inj hf) dX7_tellItem_101
    · rw [if_neg q10] at hf
      refine lv_lookup (off := 83) (tgt := 112) hx hb dX7_tellItem_29 (by decide) (by rw [lv_osw q4 (by decide)]; rw [lv_osw q10 (by decide)]; rfl) (by decide) ?_
      refine lv_aload_n hx hb dX7_tellItem_112 rfl (lv_at hl 2 rfl) ?_
      refine gf_X7_spare hx hb hts hown hW (kS_in (by decide)) iX7 (List.mem_of_getElem? (i := 5) rfl) dX7_tellItem_113 ?_
      refine lv_iload_n hx hb dX7_tellItem_116 rfl (lv_at hl 1 rfl) ?_
      obtain ⟨r16, σ16, hf16, hf⟩ := ss_bd_some hf
      refine rv_i S (c_X4_has l hAD (by decide) hf16) (cwV 1 hts gX7_tellItem_X4_has rfl rfl rfl hd_X4_has ⟨(Nat.le_of_ble_eq_true rfl), (Nat.le_of_ble_eq_true rfl)⟩) hW (kS_in (by decide)) rfl rfl rfl hl.1 (Nat.le_of_ble_eq_true rfl) ⟨Nat.zero_le _, Nat.zero_le _⟩ dX7_tellItem_117 (fun H locs hW => ?_)
      refine lv_if_eq (tgt := 130) hx hb dX7_tellItem_120 (by decide) (fun q17 => ?_) (fun q17 => ?_)
      · rw [if_pos q17] at hf
        refine lv_iconst (v := (0 : Int32)) hx hb dX7_tellItem_130 (by decide) ?_
        exact re_z hx hb hr hlocks hW (by decide) (Option.some.inj hf) dX7_tellItem_131
      · rw [if_neg q17] at hf
        refine lv_iload_n hx hb dX7_tellItem_123 rfl (lv_at hl 0 rfl) ?_
        obtain ⟨r18, σ18, hf18, hf⟩ := ss_bd_some hf
        refine rt_i S (c_X1_isOne l hAD  hf18) (va_cwS 1 hts gX7_tellItem_X1_isOne rfl rfl rfl hd_X1_isOne ⟨(Nat.le_of_ble_eq_true rfl), (Nat.le_of_ble_eq_true rfl)⟩) hW rfl rfl hl.1 (Nat.le_of_ble_eq_true rfl) ⟨Nat.zero_le _, Nat.zero_le _⟩ dX7_tellItem_124 (fun H locs hW => ?_)
        refine lv_if_ne (tgt := 132) hx hb dX7_tellItem_127 (by decide) (fun q19 => ?_) (fun q19 => ?_)
        · rw [if_neg q19] at hf
          refine lv_aload_n hx hb dX7_tellItem_132 rfl (lv_at hl 2 rfl) ?_
          refine gf_X7_spare hx hb hts hown hW (kS_in (by decide)) iX7 (List.mem_of_getElem? (i := 5) rfl) dX7_tellItem_133 ?_
          refine lv_iload_n hx hb dX7_tellItem_136 rfl (lv_at hl 1 rfl) ?_
          refine lv_iload_n hx hb dX7_tellItem_137 rfl (lv_at hl 0 rfl) ?_
          obtain ⟨σ20, hf20, hf⟩ := ss_bind hf
          refine rv_v S (c_X4_setMark l hAD (by decide) hf20) (cwV 2 hts gX7_tellItem_X4_setMark rfl rfl rfl hd_X4_setMark ⟨(Nat.le_of_ble_eq_true rfl), (Nat.le_of_ble_eq_true rfl)⟩) hW (kS_in (by decide)) rfl rfl rfl hl.1 (Nat.le_of_ble_eq_true rfl) ⟨Nat.zero_le _, Nat.zero_le _⟩ dX7_tellItem_138 (fun H locs hW => ?_)
          refine lv_iconst (v := (1 : Int32)) hx hb dX7_tellItem_141 (by decide) ?_
          exact re_z hx hb hr hlocks hW (by decide) (Option.some.inj hf) dX7_tellItem_142
        · rw [if_pos q19] at hf
          refine lv_iconst (v := (0 : Int32)) hx hb dX7_tellItem_130 (by decide) ?_
          exact re_z hx hb hr hlocks hW (by decide) (Option.some.inj hf) dX7_tellItem_131
def f_X7_read_j51 (σ51_ : ss_M) : Option (Int32 × ss_M) :=
  Option.bind (f_X4_copy 0 1 σ51_) (fun σ3 => some ((sG σ3 9 0), σ3))
def f_X7_read_j39 (x39_2 : Int32) (σ39_ : ss_M) : Option (Int32 × ss_M) :=
  some (((-1000 : Int32) - x39_2), σ39_)
def f_X7_read_L20 (k20_51 : ss_M → Option (Int32 × ss_M)) (k20_39 : Int32 → ss_M → Option (Int32 × ss_M)) : Nat → Int32 → ss_M → Option (Int32 × ss_M)
  | 0, _, _ => none
  | n20 + 1, x20_2, σ20_ => if (sG σ20_ 9 0) ≤ x20_2 then (k20_51 σ20_) else (ss_bd (f_X7_tellItem x20_2 σ20_) (fun r5 σ5 => if r5 = (0 : Int32) then (k20_39 x20_2 σ5) else ((f_X7_read_L20 k20_51 k20_39 n20) (x20_2 + (1 : Int32)) σ5)))
def f_X7_read (σ : ss_M) : Option (Int32 × ss_M) :=
  ss_bd (f_X6_findFault σ) (fun r1 σ1 => if r1 = (-1 : Int32) then (f_X7_read_L20 (f_X7_read_j51) (f_X7_read_j39) FU (0 : Int32) σ1) else (some (((-10 : Int32) - r1), σ1)))
def rm_X7_read : Room := { frames := 18, cells := 0, slots := 0, locals := 900 }
theorem hd_X7_read : yX7_read.cls = RX7 ∧ yX7_read.cls ≠ "java/lang/invoke/MethodHandle" ∧ yX7_read.cls ≠ "java/lang/invoke/VarHandle" ∧ (parseMethodDescriptor yX7_read.desc).map (fun d => d.parameters.length) = some 0 := by decide +kernel
set_option maxHeartbeats 4000000 in
set_option maxRecDepth 100000 in
theorem c_X7_read (l : Launch) {D : va_G} {Y : Nat → ClassId} {A : ss_A} (hAD : AD 0 A)   {r : Int32} {σ σ' : ss_M} (hf : f_X7_read σ = some (r, σ')) : Met l yX7_read wsX7_read rm_X7_read (Pc0 0 D Y A σ [.ref (A 0 6 0)]) (Qi0 0 D Y A r σ') 0 0 (FA 0 A) := by
  rw [f_X7_read] at hf
  refine Met0 (cc := cX7_read) (maxL := 3) (ret := (some .int)) (own := RX7) (by decide +kernel) rfl hAD rfl (Nat.le_of_ble_eq_true rfl) ?_
  intro p e s m args below meth c S hr hlocks hW ls hl
  obtain ⟨hx, hb, hml, hown, hts⟩ := id S
  have iX7 : ∀ q ∈ wsX70, q ∈ wsX7_read := fun q h => List.mem_cons_of_mem _ (List.mem_append_left _ (List.mem_append_left _ (List.mem_append_left _ (List.mem_append_right _ (h)))))
  have iX6 : ∀ q ∈ wsX60, q ∈ wsX7_read := fun q h => List.mem_cons_of_mem _ (List.mem_append_left _ (List.mem_append_left _ (List.mem_append_right _ (h))))
  have hl : lv_has ls 3 [(0, .ref (A 0 6 0))] := hl
  refine lv_aload_n hx hb dX7_read_0 rfl (lv_at hl 0 rfl) ?_
  refine gf_X7_text hx hb hts hown hW (kS_in (by decide)) iX7 (List.mem_of_getElem? (i := 1) rfl) dX7_read_1 ?_
  obtain ⟨r1, σ1, hf1, hf⟩ := ss_bd_some hf
  refine rv_i S (c_X6_findFault l hAD  hf1) (cwV 0 hts gX7_read_X6_findFault rfl rfl rfl hd_X6_findFault ⟨(Nat.le_of_ble_eq_true rfl), (Nat.le_of_ble_eq_true rfl)⟩) hW (kS_in (by decide)) rfl rfl rfl hl.1 (Nat.le_of_ble_eq_true rfl) ⟨Nat.zero_le _, Nat.zero_le _⟩ dX7_read_4 (fun H locs hW => ?_)
  refine lv_istore_n (lv' := [(1, .int r1), (0, .ref (A 0 6 0))]) hx hb dX7_read_7 rfl hl (by decide) rfl (fun ls hl => ?_)
  refine lv_iload_n hx hb dX7_read_8 rfl (lv_at hl 0 rfl) ?_
  refine lv_iconst (v := (-1 : Int32)) hx hb dX7_read_9 (by decide) ?_
  refine lv_icmp_eq (tgt := 18) hx hb dX7_read_10 (by decide) (fun q2 => ?_) (fun q2 => ?_)
  · rw [if_pos q2] at hf
    refine lv_iconst (v := (0 : Int32)) hx hb dX7_read_18 (by decide) ?_
    refine lv_istore_n (lv' := [(2, .int (0 : Int32)), (1, .int r1), (0, .ref (A 0 6 0))]) hx hb dX7_read_19 rfl hl (by decide) rfl (fun ls hl => ?_)
    have J51 : ∀ (σ51_ : ss_M) (H : Heap) (locs : List Loc) (ls : Array Slot), sW 0 D Y A σ51_ s s.heap H locs → lv_has ls 3 [(0, .ref (A 0 6 0))] → f_X7_read_j51 σ51_ = some (r, σ') → W p l e rm_X7_read s m args below meth c H locs 0 0 (MQ below (Qi0 0 D Y A r σ') args s 0 0 (FA 0 A)) (F0 m 51 ls []) := by
      intro σ51_ H locs ls hW hl hf
      rw [f_X7_read_j51] at hf
      refine lv_aload_n hx hb dX7_read_51 rfl (lv_at hl 0 rfl) ?_
      refine gf_X7_page hx hb hts hown hW (kS_in (by decide)) iX7 (List.mem_of_getElem? (i := 3) rfl) dX7_read_52 ?_
      refine lv_aload_n hx hb dX7_read_55 rfl (lv_at hl 0 rfl) ?_
      refine gf_X7_spare hx hb hts hown hW (kS_in (by decide)) iX7 (List.mem_of_getElem? (i := 4) rfl) dX7_read_56 ?_
      obtain ⟨σ3, hf3, hf⟩ := ss_bind hf
      refine rv_v S (c_X4_copy l hAD (by decide) (by decide) hf3) (cwV 1 hts gX7_read_X4_copy rfl rfl rfl hd_X4_copy ⟨(Nat.le_of_ble_eq_true rfl), (Nat.le_of_ble_eq_true rfl)⟩) hW (kS_in (by decide)) rfl rfl rfl hl.1 (Nat.le_of_ble_eq_true rfl) ⟨Nat.zero_le _, Nat.zero_le _⟩ dX7_read_59 (fun H locs hW => ?_)
      refine lv_aload_n hx hb dX7_read_62 rfl (lv_at hl 0 rfl) ?_
      refine gf_X7_text hx hb hts hown hW (kS_in (by decide)) iX7 (List.mem_of_getElem? (i := 1) rfl) dX7_read_63 ?_
      refine gf_X6_items hx hb hts hown hW (kS_in (by decide)) iX6 (List.mem_of_getElem? (i := 2) rfl) dX7_read_66 ?_
      exact re_i hx hb hr hlocks hW (Option.some.inj hf) dX7_read_69
    have J39 : ∀ (x39_2 : Int32) (σ39_ : ss_M) (H : Heap) (locs : List Loc) (ls : Array Slot), sW 0 D Y A σ39_ s s.heap H locs → lv_has ls 3 [(2, .int x39_2)] → f_X7_read_j39 x39_2 σ39_ = some (r, σ') → W p l e rm_X7_read s m args below meth c H locs 0 0 (MQ below (Qi0 0 D Y A r σ') args s 0 0 (FA 0 A)) (F0 m 39 ls []) := by
      intro x39_2 σ39_ H locs ls hW hl hf
      rw [f_X7_read_j39] at hf
      refine lv_sipush (v := (-1000 : Int32)) hx hb dX7_read_39 (by decide) ?_
      refine lv_iload_n hx hb dX7_read_42 rfl (lv_at hl 0 rfl) ?_
      refine lv_isub hx hb dX7_read_43 ?_
      exact re_i hx hb hr hlocks hW (Option.some.inj hf) dX7_read_44
    have L20 : ∀ (n20 : Nat), ∀ (x20_2 : Int32) (σ20_ : ss_M) (H : Heap) (locs : List Loc) (ls : Array Slot), sW 0 D Y A σ20_ s s.heap H locs → lv_has ls 3 [(0, .ref (A 0 6 0)), (2, .int x20_2)] → f_X7_read_L20 (f_X7_read_j51) (f_X7_read_j39) n20 x20_2 σ20_ = some (r, σ') → W p l e rm_X7_read s m args below meth c H locs 0 0 (MQ below (Qi0 0 D Y A r σ') args s 0 0 (FA 0 A)) (F0 m 20 ls []) := by
      intro n20
      induction n20 with
      | zero =>
        intro x20_2 σ20_ H locs ls hW hl hf
        rw [f_X7_read_L20] at hf
        cases hf
      | succ n20 ih20 =>
        intro x20_2 σ20_ H locs ls hW hl hf
        rw [f_X7_read_L20] at hf
        refine lv_iload_n hx hb dX7_read_20 rfl (lv_at hl 1 rfl) ?_
        refine lv_aload_n hx hb dX7_read_21 rfl (lv_at hl 0 rfl) ?_
        refine gf_X7_text hx hb hts hown hW (kS_in (by decide)) iX7 (List.mem_of_getElem? (i := 1) rfl) dX7_read_22 ?_
        refine gf_X6_items hx hb hts hown hW (kS_in (by decide)) iX6 (List.mem_of_getElem? (i := 2) rfl) dX7_read_25 ?_
        refine lv_icmp_ge (tgt := 51) hx hb dX7_read_28 (by decide) (fun q4 => ?_) (fun q4 => ?_)
        · rw [if_pos q4] at hf
          exact J51 σ20_ _ _ _ hW (lv_sub hl [0] rfl) hf
        · rw [if_neg q4] at hf
          refine lv_aload_n hx hb dX7_read_31 rfl (lv_at hl 0 rfl) ?_
          refine lv_iload_n hx hb dX7_read_32 rfl (lv_at hl 1 rfl) ?_
          obtain ⟨r5, σ5, hf5, hf⟩ := ss_bd_some hf
          refine rv_i S (c_X7_tellItem l hAD  hf5) (cwV 1 hts gX7_read_X7_tellItem rfl rfl rfl hd_X7_tellItem ⟨(Nat.le_of_ble_eq_true rfl), (Nat.le_of_ble_eq_true rfl)⟩) hW (kS_in (by decide)) rfl rfl rfl hl.1 (Nat.le_of_ble_eq_true rfl) ⟨Nat.zero_le _, Nat.zero_le _⟩ dX7_read_33 (fun H locs hW => ?_)
          refine lv_if_ne (tgt := 45) hx hb dX7_read_36 (by decide) (fun q6 => ?_) (fun q6 => ?_)
          · rw [if_neg q6] at hf
            refine lv_iinc (v := (x20_2 + (1 : Int32))) (lv' := [(2, .int (x20_2 + (1 : Int32))), (0, .ref (A 0 6 0))]) hx hb dX7_read_45 hl (k := 1) rfl rfl (by decide) rfl (fun ls hl => ?_)
            refine lv_goto (tgt := 20) hx hb dX7_read_48 (by decide) ?_
            exact ih20 (x20_2 + (1 : Int32)) σ5 _ _ _ hW (lv_sub hl [1, 0] rfl) hf
          · rw [if_pos q6] at hf
            exact J39 x20_2 σ5 _ _ _ hW (lv_sub hl [1] rfl) hf
    exact L20 FU (0 : Int32) σ1 _ _ _ hW (lv_sub hl [2, 0] rfl) hf
  · rw [if_neg q2] at hf
    refine lv_bipush (v := (-10 : Int32)) hx hb dX7_read_13 (by decide) ?_
    refine lv_iload_n hx hb dX7_read_15 rfl (lv_at hl 0 rfl) ?_
    refine lv_isub hx hb dX7_read_16 ?_
    exact re_i hx hb hr hlocks hW (Option.some.inj hf) dX7_read_17
def f_X7_no (p0 : Int32) (σ : ss_M) : Option (Int32 × ss_M) :=
  some (p0, (sGu σ 15 0 ((sG σ 15 0) + (1 : Int32))))
def rm_X7_no : Room := { frames := 0, cells := 0, slots := 0, locals := 0 }
theorem hd_X7_no : yX7_no.cls = RX7 ∧ yX7_no.cls ≠ "java/lang/invoke/MethodHandle" ∧ yX7_no.cls ≠ "java/lang/invoke/VarHandle" ∧ (parseMethodDescriptor yX7_no.desc).map (fun d => d.parameters.length) = some 1 := by decide +kernel
set_option maxHeartbeats 4000000 in
set_option maxRecDepth 100000 in
theorem c_X7_no (l : Launch) {D : va_G} {Y : Nat → ClassId} {A : ss_A} (hAD : AD 0 A) {p0 : Int32}  {r : Int32} {σ σ' : ss_M} (hf : f_X7_no p0 σ = some (r, σ')) : Met l yX7_no wsX7_no rm_X7_no (Pc0 0 D Y A σ [.ref (A 0 6 0), .int p0]) (Qi0 0 D Y A r σ') 0 0 (FA 0 A) := by
  rw [f_X7_no] at hf
  refine Met0 (cc := cX7_no) (maxL := 2) (ret := (some .int)) (own := RX7) (by decide +kernel) rfl hAD rfl (Nat.le_of_ble_eq_true rfl) ?_
  intro p e s m args below meth c S hr hlocks hW ls hl
  obtain ⟨hx, hb, hml, hown, hts⟩ := id S
  have iX7 : ∀ q ∈ wsX70, q ∈ wsX7_no := fun q h => List.mem_cons_of_mem _ (List.mem_append_right _ (h))
  have hl : lv_has ls 2 [(0, .ref (A 0 6 0)), (1, .int p0)] := hl
  refine lv_aload_n hx hb dX7_no_0 rfl (lv_at hl 0 rfl) ?_
  refine lv_dup hx hb dX7_no_1 rfl ?_
  refine gf_X7_nos hx hb hts hown hW (kS_in (by decide)) iX7 (List.mem_of_getElem? (i := 1) rfl) dX7_no_2 ?_
  refine lv_iconst (v := (1 : Int32)) hx hb dX7_no_5 (by decide) ?_
  refine lv_iadd hx hb dX7_no_6 ?_
  refine pf_X7_nos hx hb hts hown hW (kS_in (by decide)) iX7 (List.mem_of_getElem? (i := 1) rfl) dX7_no_7 (fun H locs hW => ?_)
  refine lv_iload_n hx hb dX7_no_10 rfl (lv_at hl 1 rfl) ?_
  exact re_i hx hb hr hlocks hW (Option.some.inj hf) dX7_no_11
def f_X7_buy_j18 (σ18_ : ss_M) : Option (Int32 × ss_M) :=
  ss_bd (f_X7_bad (-2 : Int32) σ18_) (fun r2 σ2 => some (r2, σ2))
def f_X7_buy_j64 (σ64_ : ss_M) : Option (Int32 × ss_M) :=
  ss_bd (f_X7_no (-3 : Int32) σ64_) (fun r8 σ8 => some (r8, σ8))
def f_X7_buy (p0 : Int32) (p1 : Int32) (σ : ss_M) : Option (Int32 × ss_M) :=
  ss_bd (f_X4_has 0 p0 σ) (fun r1 σ1 => if r1 = (0 : Int32) then (f_X7_buy_j18 σ1) else (ss_bd (f_X1_isOne p1 σ1) (fun r4 σ4 => if r4 = (0 : Int32) then (f_X7_buy_j18 σ4) else (ss_bd (f_X4_costOf 0 p1 σ4) (fun r6 σ6 => if gd p0 12 = true then (if (sA σ6 0 0 (p0).toNatClampNeg) = (-1 : Int32) then (if r6 ≤ (sG σ6 0 0) then (Option.bind (f_X4_remember 0 σ6) (fun σ11 => Option.bind (f_X2_set 0 p0 p1 σ11) (fun σ12 => some (r6, (sGu σ12 0 0 ((sG σ12 0 0) - r6)))))) else (f_X7_buy_j64 σ6)) else (f_X7_buy_j64 σ6)) else none)))))
def rm_X7_buy : Room := { frames := 6, cells := 0, slots := 0, locals := 300 }
theorem hd_X7_buy : yX7_buy.cls = RX7 ∧ yX7_buy.cls ≠ "java/lang/invoke/MethodHandle" ∧ yX7_buy.cls ≠ "java/lang/invoke/VarHandle" ∧ (parseMethodDescriptor yX7_buy.desc).map (fun d => d.parameters.length) = some 2 := by decide +kernel
set_option maxHeartbeats 4000000 in
set_option maxRecDepth 100000 in
theorem c_X7_buy (l : Launch) {D : va_G} {Y : Nat → ClassId} {A : ss_A} (hAD : AD 0 A) {p0 : Int32} {p1 : Int32}  {r : Int32} {σ σ' : ss_M} (hf : f_X7_buy p0 p1 σ = some (r, σ')) : Met l yX7_buy wsX7_buy rm_X7_buy (Pc0 0 D Y A σ [.ref (A 0 6 0), .int p0, .int p1]) (Qi0 0 D Y A r σ') 0 0 (FA 0 A) := by
  rw [f_X7_buy] at hf
  refine Met0 (cc := cX7_buy) (maxL := 4) (ret := (some .int)) (own := RX7) (by decide +kernel) rfl hAD rfl (Nat.le_of_ble_eq_true rfl) ?_
  intro p e s m args below meth c S hr hlocks hW ls hl
  obtain ⟨hx, hb, hml, hown, hts⟩ := id S
  have iX7 : ∀ q ∈ wsX70, q ∈ wsX7_buy := fun q h => List.mem_cons_of_mem _ (List.mem_append_left _ (List.mem_append_left _ (List.mem_append_right _ (h))))
  have iX4 : ∀ q ∈ wsX40, q ∈ wsX7_buy := fun q h => List.mem_cons_of_mem _ (List.mem_append_left _ (List.mem_append_right _ (h)))
  have iX2 : ∀ q ∈ wsX20, q ∈ wsX7_buy := fun q h => List.mem_cons_of_mem _ (List.mem_append_right _ (h))
  have hl : lv_has ls 4 [(0, .ref (A 0 6 0)), (1, .int p0), (2, .int p1)] := hl
  refine lv_aload_n hx hb dX7_buy_0 rfl (lv_at hl 0 rfl) ?_
  refine gf_X7_page hx hb hts hown hW (kS_in (by decide)) iX7 (List.mem_of_getElem? (i := 1) rfl) dX7_buy_1 ?_
  refine lv_iload_n hx hb dX7_buy_4 rfl (lv_at hl 1 rfl) ?_
  obtain ⟨r1, σ1, hf1, hf⟩ := ss_bd_some hf
  refine rv_i S (c_X4_has l hAD (by decide) hf1) (cwV 1 hts gX7_buy_X4_has rfl rfl rfl hd_X4_has ⟨(Nat.le_of_ble_eq_true rfl), (Nat.le_of_ble_eq_true rfl)⟩) hW (kS_in (by decide)) rfl rfl rfl hl.1 (Nat.le_of_ble_eq_true rfl) ⟨Nat.zero_le _, Nat.zero_le _⟩ dX7_buy_5 (fun H locs hW => ?_)
  have J18 : ∀ (σ18_ : ss_M) (H : Heap) (locs : List Loc) (ls : Array Slot), sW 0 D Y A σ18_ s s.heap H locs → lv_has ls 4 [(0, .ref (A 0 6 0))] → f_X7_buy_j18 σ18_ = some (r, σ') → W p l e rm_X7_buy s m args below meth c H locs 0 0 (MQ below (Qi0 0 D Y A r σ') args s 0 0 (FA 0 A)) (F0 m 18 ls []) := by
    intro σ18_ H locs ls hW hl hf
    rw [f_X7_buy_j18] at hf
    refine lv_aload_n hx hb dX7_buy_18 rfl (lv_at hl 0 rfl) ?_
    refine lv_bipush (v := (-2 : Int32)) hx hb dX7_buy_19 (by decide) ?_
    obtain ⟨r2, σ2, hf2, hf⟩ := ss_bd_some hf
    refine rv_i S (c_X7_bad l hAD  hf2) (cwV 1 hts gX7_buy_X7_bad rfl rfl rfl hd_X7_bad ⟨(Nat.le_of_ble_eq_true rfl), (Nat.le_of_ble_eq_true rfl)⟩) hW (kS_in (by decide)) rfl rfl rfl hl.1 (Nat.le_of_ble_eq_true rfl) ⟨Nat.zero_le _, Nat.zero_le _⟩ dX7_buy_21 (fun H locs hW => ?_)
    exact re_i hx hb hr hlocks hW (Option.some.inj hf) dX7_buy_24
  refine lv_if_eq (tgt := 18) hx hb dX7_buy_8 (by decide) (fun q3 => ?_) (fun q3 => ?_)
  · rw [if_pos q3] at hf
    exact J18 σ1 _ _ _ hW (lv_sub hl [0] rfl) hf
  · rw [if_neg q3] at hf
    refine lv_iload_n hx hb dX7_buy_11 rfl (lv_at hl 2 rfl) ?_
    obtain ⟨r4, σ4, hf4, hf⟩ := ss_bd_some hf
    refine rt_i S (c_X1_isOne l hAD  hf4) (va_cwS 1 hts gX7_buy_X1_isOne rfl rfl rfl hd_X1_isOne ⟨(Nat.le_of_ble_eq_true rfl), (Nat.le_of_ble_eq_true rfl)⟩) hW rfl rfl hl.1 (Nat.le_of_ble_eq_true rfl) ⟨Nat.zero_le _, Nat.zero_le _⟩ dX7_buy_12 (fun H locs hW => ?_)
    refine lv_if_ne (tgt := 25) hx hb dX7_buy_15 (by decide) (fun q5 => ?_) (fun q5 => ?_)
    · rw [if_neg q5] at hf
      refine lv_aload_n hx hb dX7_buy_25 rfl (lv_at hl 0 rfl) ?_
      refine gf_X7_page hx hb hts hown hW (kS_in (by decide)) iX7 (List.mem_of_getElem? (i := 1) rfl) dX7_buy_26 ?_
      refine lv_iload_n hx hb dX7_buy_29 rfl (lv_at hl 2 rfl) ?_
      obtain ⟨r6, σ6, hf6, hf⟩ := ss_bd_some hf
      refine rv_i S (c_X4_costOf l hAD (by decide) hf6) (cwV 1 hts gX7_buy_X4_costOf rfl rfl rfl hd_X4_costOf ⟨(Nat.le_of_ble_eq_true rfl), (Nat.le_of_ble_eq_true rfl)⟩) hW (kS_in (by decide)) rfl rfl rfl hl.1 (Nat.le_of_ble_eq_true rfl) ⟨Nat.zero_le _, Nat.zero_le _⟩ dX7_buy_30 (fun H locs hW => ?_)
      refine lv_istore_n (lv' := [(3, .int r6), (0, .ref (A 0 6 0)), (1, .int p0), (2, .int p1)]) hx hb dX7_buy_33 rfl hl (by decide) rfl (fun ls hl => ?_)
      refine lv_aload_n hx hb dX7_buy_34 rfl (lv_at hl 1 rfl) ?_
      refine gf_X7_page hx hb hts hown hW (kS_in (by decide)) iX7 (List.mem_of_getElem? (i := 1) rfl) dX7_buy_35 ?_
      refine gf_X4_marks hx hb hts hown hW (kS_in (by decide)) iX4 (List.mem_of_getElem? (i := 2) rfl) dX7_buy_38 ?_
      refine gf_X2_kinds hx hb hts hown hW (kS_in (by decide)) iX2 (List.mem_of_getElem? (i := 3) rfl) dX7_buy_41 ?_
      refine lv_iload_n hx hb dX7_buy_44 rfl (lv_at hl 2 rfl) ?_
      obtain ⟨g7, hf⟩ := ss_if hf
      refine ra_i hx hb hW (kS_in (by decide)) g7 dX7_buy_45 ?_
      refine lv_iconst (v := (-1 : Int32)) hx hb dX7_buy_46 (by decide) ?_
      have J64 : ∀ (σ64_ : ss_M) (H : Heap) (locs : List Loc) (ls : Array Slot), sW 0 D Y A σ64_ s s.heap H locs → lv_has ls 4 [(0, .ref (A 0 6 0))] → f_X7_buy_j64 σ64_ = some (r, σ') → W p l e rm_X7_buy s m args below meth c H locs 0 0 (MQ below (Qi0 0 D Y A r σ') args s 0 0 (FA 0 A)) (F0 m 64 ls []) := by
        intro σ64_ H locs ls hW hl hf
        rw [f_X7_buy_j64] at hf
        refine lv_aload_n hx hb dX7_buy_64 rfl (lv_at hl 0 rfl) ?_
        refine lv_bipush (v := (-3 : Int32)) hx hb dX7_buy_65 (by decide) ?_
        obtain ⟨r8, σ8, hf8, hf⟩ := ss_bd_some hf
        refine rv_i S (c_X7_no l hAD  hf8) (cwV 1 hts gX7_buy_X7_no rfl rfl rfl hd_X7_no ⟨(Nat.le_of_ble_eq_true rfl), (Nat.le_of_ble_eq_true rfl)⟩) hW (kS_in (by decide)) rfl rfl rfl hl.1 (Nat.le_of_ble_eq_true rfl) ⟨Nat.zero_le _, Nat.zero_le _⟩ dX7_buy_67 (fun H locs hW => ?_)
        exact re_i hx hb hr hlocks hW (Option.some.inj hf) dX7_buy_70
      refine lv_icmp_ne (tgt := 64) hx hb dX7_buy_47 (by decide) (fun q9 => ?_) (fun q9 => ?_)
      · rw [if_neg q9] at hf
        exact J64 σ6 _ _ _ hW (lv_sub hl [1] rfl) hf
      · rw [if_pos q9] at hf
        refine lv_aload_n hx hb dX7_buy_50 rfl (lv_at hl 1 rfl) ?_
        refine gf_X7_page hx hb hts hown hW (kS_in (by decide)) iX7 (List.mem_of_getElem? (i := 1) rfl) dX7_buy_51 ?_
        refine gf_X4_marks hx hb hts hown hW (kS_in (by decide)) iX4 (List.mem_of_getElem? (i := 2) rfl) dX7_buy_54 ?_
        refine gf_X2_purse hx hb hts hown hW (kS_in (by decide)) iX2 (List.mem_of_getElem? (i := 4) rfl) dX7_buy_57 ?_
        refine lv_iload_n hx hb dX7_buy_60 rfl (lv_at hl 0 rfl) ?_
        refine lv_icmp_ge (tgt := 71) hx hb dX7_buy_61 (by decide) (fun q10 => ?_) (fun q10 => ?_)
        · rw [if_pos q10] at hf
          refine lv_aload_n hx hb dX7_buy_71 rfl (lv_at hl 1 rfl) ?_
          refine gf_X7_page hx hb hts hown hW (kS_in (by decide)) iX7 (List.mem_of_getElem? (i := 1) rfl) dX7_buy_72 ?_
          obtain ⟨σ11, hf11, hf⟩ := ss_bind hf
          refine rv_v S (c_X4_remember l hAD (by decide) hf11) (cwV 0 hts gX7_buy_X4_remember rfl rfl rfl hd_X4_remember ⟨(Nat.le_of_ble_eq_true rfl), (Nat.le_of_ble_eq_true rfl)⟩) hW (kS_in (by decide)) rfl rfl rfl hl.1 (Nat.le_of_ble_eq_true rfl) ⟨Nat.zero_le _, Nat.zero_le _⟩ dX7_buy_75 (fun H locs hW => ?_)
          refine lv_aload_n hx hb dX7_buy_78 rfl (lv_at hl 1 rfl) ?_
          refine gf_X7_page hx hb hts hown hW (kS_in (by decide)) iX7 (List.mem_of_getElem? (i := 1) rfl) dX7_buy_79 ?_
          refine gf_X4_marks hx hb hts hown hW (kS_in (by decide)) iX4 (List.mem_of_getElem? (i := 2) rfl) dX7_buy_82 ?_
          refine lv_iload_n hx hb dX7_buy_85 rfl (lv_at hl 2 rfl) ?_
          refine lv_iload_n hx hb dX7_buy_86 rfl (lv_at hl 3 rfl) ?_
          obtain ⟨σ12, hf12, hf⟩ := ss_bind hf
          refine rv_v S (c_X2_set l hAD (by decide) hf12) (cwV 2 hts gX7_buy_X2_set rfl rfl rfl hd_X2_set ⟨(Nat.le_of_ble_eq_true rfl), (Nat.le_of_ble_eq_true rfl)⟩) hW (kS_in (by decide)) rfl rfl rfl hl.1 (Nat.le_of_ble_eq_true rfl) ⟨Nat.zero_le _, Nat.zero_le _⟩ dX7_buy_87 (fun H locs hW => ?_)
          refine lv_aload_n hx hb dX7_buy_90 rfl (lv_at hl 1 rfl) ?_
          refine gf_X7_page hx hb hts hown hW (kS_in (by decide)) iX7 (List.mem_of_getElem? (i := 1) rfl) dX7_buy_91 ?_
          refine gf_X4_marks hx hb hts hown hW (kS_in (by decide)) iX4 (List.mem_of_getElem? (i := 2) rfl) dX7_buy_94 ?_
          refine lv_dup hx hb dX7_buy_97 rfl ?_
          refine gf_X2_purse hx hb hts hown hW (kS_in (by decide)) iX2 (List.mem_of_getElem? (i := 4) rfl) dX7_buy_98 ?_
          refine lv_iload_n hx hb dX7_buy_101 rfl (lv_at hl 0 rfl) ?_
          refine lv_isub hx hb dX7_buy_102 ?_
          refine pf_X2_purse hx hb hts hown hW (kS_in (by decide)) iX2 (List.mem_of_getElem? (i := 4) rfl) dX7_buy_103 (fun H locs hW => ?_)
          refine lv_iload_n hx hb dX7_buy_106 rfl (lv_at hl 0 rfl) ?_
          exact re_i hx hb hr hlocks hW (Option.some.inj hf) dX7_buy_107
        · rw [if_neg q10] at hf
          exact J64 σ6 _ _ _ hW (lv_sub hl [1] rfl) hf
    · rw [if_pos q5] at hf
      exact J18 σ4 _ _ _ hW (lv_sub hl [0] rfl) hf
def f_X7_sell (p0 : Int32) (σ : ss_M) : Option (Int32 × ss_M) :=
  ss_bd (f_X4_has 0 p0 σ) (fun r1 σ1 => if r1 = (0 : Int32) then (ss_bd (f_X7_bad (-2 : Int32) σ1) (fun r10 σ10 => some (r10, σ10))) else (if gd p0 12 = true then (if (sA σ1 0 0 (p0).toNatClampNeg) = (-1 : Int32) then (ss_bd (f_X7_no (-3 : Int32) σ1) (fun r9 σ9 => some (r9, σ9))) else (if gd p0 12 = true then (ss_bd (f_X4_costOf 0 (sA σ1 0 0 (p0).toNatClampNeg) σ1) (fun r6 σ6 => Option.bind (f_X4_remember 0 σ6) (fun σ7 => Option.bind (f_X2_set 0 p0 (-1 : Int32) σ7) (fun σ8 => some ((r6 / (2 : Int32)), (sGu σ8 0 0 (if (999 : Int32) < ((sG σ8 0 0) + (r6 / (2 : Int32))) then (999 : Int32) else ((sG σ8 0 0) + (r6 / (2 : Int32)))))))))) else none)) else none))
def rm_X7_sell : Room := { frames := 6, cells := 0, slots := 0, locals := 300 }
theorem hd_X7_sell : yX7_sell.cls = RX7 ∧ yX7_sell.cls ≠ "java/lang/invoke/MethodHandle" ∧ yX7_sell.cls ≠ "java/lang/invoke/VarHandle" ∧ (parseMethodDescriptor yX7_sell.desc).map (fun d => d.parameters.length) = some 1 := by decide +kernel
set_option maxHeartbeats 4000000 in
set_option maxRecDepth 100000 in
theorem c_X7_sell (l : Launch) {D : va_G} {Y : Nat → ClassId} {A : ss_A} (hAD : AD 0 A) {p0 : Int32}  {r : Int32} {σ σ' : ss_M} (hf : f_X7_sell p0 σ = some (r, σ')) : Met l yX7_sell wsX7_sell rm_X7_sell (Pc0 0 D Y A σ [.ref (A 0 6 0), .int p0]) (Qi0 0 D Y A r σ') 0 0 (FA 0 A) := by
  rw [f_X7_sell] at hf
  refine Met0 (cc := cX7_sell) (maxL := 3) (ret := (some .int)) (own := RX7) (by decide +kernel) rfl hAD rfl (Nat.le_of_ble_eq_true rfl) ?_
  intro p e s m args below meth c S hr hlocks hW ls hl
  obtain ⟨hx, hb, hml, hown, hts⟩ := id S
  have iX7 : ∀ q ∈ wsX70, q ∈ wsX7_sell := fun q h => List.mem_cons_of_mem _ (List.mem_append_left _ (List.mem_append_left _ (List.mem_append_right _ (h))))
  have iX4 : ∀ q ∈ wsX40, q ∈ wsX7_sell := fun q h => List.mem_cons_of_mem _ (List.mem_append_left _ (List.mem_append_right _ (h)))
  have iX2 : ∀ q ∈ wsX20, q ∈ wsX7_sell := fun q h => List.mem_cons_of_mem _ (List.mem_append_right _ (h))
  have hl : lv_has ls 3 [(0, .ref (A 0 6 0)), (1, .int p0)] := hl
  refine lv_aload_n hx hb dX7_sell_0 rfl (lv_at hl 0 rfl) ?_
  refine gf_X7_page hx hb hts hown hW (kS_in (by decide)) iX7 (List.mem_of_getElem? (i := 1) rfl) dX7_sell_1 ?_
  refine lv_iload_n hx hb dX7_sell_4 rfl (lv_at hl 1 rfl) ?_
  obtain ⟨r1, σ1, hf1, hf⟩ := ss_bd_some hf
  refine rv_i S (c_X4_has l hAD (by decide) hf1) (cwV 1 hts gX7_sell_X4_has rfl rfl rfl hd_X4_has ⟨(Nat.le_of_ble_eq_true rfl), (Nat.le_of_ble_eq_true rfl)⟩) hW (kS_in (by decide)) rfl rfl rfl hl.1 (Nat.le_of_ble_eq_true rfl) ⟨Nat.zero_le _, Nat.zero_le _⟩ dX7_sell_5 (fun H locs hW => ?_)
  refine lv_if_ne (tgt := 18) hx hb dX7_sell_8 (by decide) (fun q2 => ?_) (fun q2 => ?_)
  · rw [if_neg q2] at hf
    refine lv_aload_n hx hb dX7_sell_18 rfl (lv_at hl 0 rfl) ?_
    refine gf_X7_page hx hb hts hown hW (kS_in (by decide)) iX7 (List.mem_of_getElem? (i := 1) rfl) dX7_sell_19 ?_
    refine gf_X4_marks hx hb hts hown hW (kS_in (by decide)) iX4 (List.mem_of_getElem? (i := 2) rfl) dX7_sell_22 ?_
    refine gf_X2_kinds hx hb hts hown hW (kS_in (by decide)) iX2 (List.mem_of_getElem? (i := 3) rfl) dX7_sell_25 ?_
    refine lv_iload_n hx hb dX7_sell_28 rfl (lv_at hl 1 rfl) ?_
    obtain ⟨g3, hf⟩ := ss_if hf
    refine ra_i hx hb hW (kS_in (by decide)) g3 dX7_sell_29 ?_
    refine lv_iconst (v := (-1 : Int32)) hx hb dX7_sell_30 (by decide) ?_
    refine lv_icmp_ne (tgt := 41) hx hb dX7_sell_31 (by decide) (fun q4 => ?_) (fun q4 => ?_)
    · rw [if_neg q4] at hf
      refine lv_aload_n hx hb dX7_sell_41 rfl (lv_at hl 0 rfl) ?_
      refine gf_X7_page hx hb hts hown hW (kS_in (by decide)) iX7 (List.mem_of_getElem? (i := 1) rfl) dX7_sell_42 ?_
      refine lv_aload_n hx hb dX7_sell_45 rfl (lv_at hl 0 rfl) ?_
      refine gf_X7_page hx hb hts hown hW (kS_in (by decide)) iX7 (List.mem_of_getElem? (i := 1) rfl) dX7_sell_46 ?_
      refine gf_X4_marks hx hb hts hown hW (kS_in (by decide)) iX4 (List.mem_of_getElem? (i := 2) rfl) dX7_sell_49 ?_
      refine gf_X2_kinds hx hb hts hown hW (kS_in (by decide)) iX2 (List.mem_of_getElem? (i := 3) rfl) dX7_sell_52 ?_
      refine lv_iload_n hx hb dX7_sell_55 rfl (lv_at hl 1 rfl) ?_
      obtain ⟨g5, hf⟩ := ss_if hf
      refine ra_i hx hb hW (kS_in (by decide)) g5 dX7_sell_56 ?_
      obtain ⟨r6, σ6, hf6, hf⟩ := ss_bd_some hf
      refine rv_i S (c_X4_costOf l hAD (by decide) hf6) (cwV 1 hts gX7_sell_X4_costOf rfl rfl rfl hd_X4_costOf ⟨(Nat.le_of_ble_eq_true rfl), (Nat.le_of_ble_eq_true rfl)⟩) hW (kS_in (by decide)) rfl rfl rfl hl.1 (Nat.le_of_ble_eq_true rfl) ⟨Nat.zero_le _, Nat.zero_le _⟩ dX7_sell_57 (fun H locs hW => ?_)
      refine lv_iconst (v := (2 : Int32)) hx hb dX7_sell_60 (by decide) ?_
      refine lv_idiv hx hb dX7_sell_61 (by decide) ?_
      refine lv_istore_n (lv' := [(2, .int (r6 / (2 : Int32))), (0, .ref (A 0 6 0)), (1, .int p0)]) hx hb dX7_sell_62 rfl hl (by decide) rfl (fun ls hl => ?_)
      refine lv_aload_n hx hb dX7_sell_63 rfl (lv_at hl 1 rfl) ?_
      refine gf_X7_page hx hb hts hown hW (kS_in (by decide)) iX7 (List.mem_of_getElem? (i := 1) rfl) dX7_sell_64 ?_
      obtain ⟨σ7, hf7, hf⟩ := ss_bind hf
      refine rv_v S (c_X4_remember l hAD (by decide) hf7) (cwV 0 hts gX7_sell_X4_remember rfl rfl rfl hd_X4_remember ⟨(Nat.le_of_ble_eq_true rfl), (Nat.le_of_ble_eq_true rfl)⟩) hW (kS_in (by decide)) rfl rfl rfl hl.1 (Nat.le_of_ble_eq_true rfl) ⟨Nat.zero_le _, Nat.zero_le _⟩ dX7_sell_67 (fun H locs hW => ?_)
      refine lv_aload_n hx hb dX7_sell_70 rfl (lv_at hl 1 rfl) ?_
      refine gf_X7_page hx hb hts hown hW (kS_in (by decide)) iX7 (List.mem_of_getElem? (i := 1) rfl) dX7_sell_71 ?_
      refine gf_X4_marks hx hb hts hown hW (kS_in (by decide)) iX4 (List.mem_of_getElem? (i := 2) rfl) dX7_sell_74 ?_
      refine lv_iload_n hx hb dX7_sell_77 rfl (lv_at hl 2 rfl) ?_
      refine lv_iconst (v := (-1 : Int32)) hx hb dX7_sell_78 (by decide) ?_
      obtain ⟨σ8, hf8, hf⟩ := ss_bind hf
      refine rv_v S (c_X2_set l hAD (by decide) hf8) (cwV 2 hts gX7_sell_X2_set rfl rfl rfl hd_X2_set ⟨(Nat.le_of_ble_eq_true rfl), (Nat.le_of_ble_eq_true rfl)⟩) hW (kS_in (by decide)) rfl rfl rfl hl.1 (Nat.le_of_ble_eq_true rfl) ⟨Nat.zero_le _, Nat.zero_le _⟩ dX7_sell_79 (fun H locs hW => ?_)
      refine lv_aload_n hx hb dX7_sell_82 rfl (lv_at hl 1 rfl) ?_
      refine gf_X7_page hx hb hts hown hW (kS_in (by decide)) iX7 (List.mem_of_getElem? (i := 1) rfl) dX7_sell_83 ?_
      refine gf_X4_marks hx hb hts hown hW (kS_in (by decide)) iX4 (List.mem_of_getElem? (i := 2) rfl) dX7_sell_86 ?_
      refine lv_aload_n hx hb dX7_sell_89 rfl (lv_at hl 1 rfl) ?_
      refine gf_X7_page hx hb hts hown hW (kS_in (by decide)) iX7 (List.mem_of_getElem? (i := 1) rfl) dX7_sell_90 ?_
      refine gf_X4_marks hx hb hts hown hW (kS_in (by decide)) iX4 (List.mem_of_getElem? (i := 2) rfl) dX7_sell_93 ?_
      refine gf_X2_purse hx hb hts hown hW (kS_in (by decide)) iX2 (List.mem_of_getElem? (i := 4) rfl) dX7_sell_96 ?_
      refine lv_iload_n hx hb dX7_sell_99 rfl (lv_at hl 0 rfl) ?_
      refine lv_iadd hx hb dX7_sell_100 ?_
      refine lv_sipush (v := (999 : Int32)) hx hb dX7_sell_101 (by decide) ?_
      refine va_mmin hx hb (hml.trans hl.1.symm) hown (hts _ (List.mem_of_getElem? (i := 5) rfl)) (hts _ (List.mem_of_getElem? (i := 6) rfl)) (hts _ (List.mem_of_getElem? (i := 7) rfl)) (hts _ (List.mem_of_getElem? (i := 8) rfl)) (Nat.le_of_ble_eq_true rfl) (Nat.le_of_ble_eq_true rfl) (Nat.zero_le _) (Nat.zero_le _) dX7_sell_104 ?_
      refine pf_X2_purse hx hb hts hown hW (kS_in (by decide)) iX2 (List.mem_of_getElem? (i := 4) rfl) dX7_sell_107 (fun H locs hW => ?_)
      refine lv_iload_n hx hb dX7_sell_110 rfl (lv_at hl 0 rfl) ?_
      exact re_i hx hb hr hlocks hW (Option.some.inj hf) dX7_sell_111
    · rw [if_pos q4] at hf
      refine lv_aload_n hx hb dX7_sell_34 rfl (lv_at hl 0 rfl) ?_
      refine lv_bipush (v := (-3 : Int32)) hx hb dX7_sell_35 (by decide) ?_
      obtain ⟨r9, σ9, hf9, hf⟩ := ss_bd_some hf
      refine rv_i S (c_X7_no l hAD  hf9) (cwV 1 hts gX7_sell_X7_no rfl rfl rfl hd_X7_no ⟨(Nat.le_of_ble_eq_true rfl), (Nat.le_of_ble_eq_true rfl)⟩) hW (kS_in (by decide)) rfl rfl rfl hl.1 (Nat.le_of_ble_eq_true rfl) ⟨Nat.zero_le _, Nat.zero_le _⟩ dX7_sell_37 (fun H locs hW => ?_)
      exact re_i hx hb hr hlocks hW (Option.some.inj hf) dX7_sell_40
  · rw [if_pos q2] at hf
    refine lv_aload_n hx hb dX7_sell_11 rfl (lv_at hl 0 rfl) ?_
    refine lv_bipush (v := (-2 : Int32)) hx hb dX7_sell_12 (by decide) ?_
    obtain ⟨r10, σ10, hf10, hf⟩ := ss_bd_some hf
    refine rv_i S (c_X7_bad l hAD  hf10) (cwV 1 hts gX7_sell_X7_bad rfl rfl rfl hd_X7_bad ⟨(Nat.le_of_ble_eq_true rfl), (Nat.le_of_ble_eq_true rfl)⟩) hW (kS_in (by decide)) rfl rfl rfl hl.1 (Nat.le_of_ble_eq_true rfl) ⟨Nat.zero_le _, Nat.zero_le _⟩ dX7_sell_14 (fun H locs hW => ?_)
    exact re_i hx hb hr hlocks hW (Option.some.inj hf) dX7_sell_17
def f_X7_readOut (σ : ss_M) : Option (Int32 × ss_M) :=
  Option.bind (f_X4_remember 0 σ) (fun σ1 => ss_bd (f_X4_say 0 σ1) (fun r2 σ2 => some (r2, σ2)))
def rm_X7_readOut : Room := { frames := 8, cells := 0, slots := 0, locals := 400 }
theorem hd_X7_readOut : yX7_readOut.cls = RX7 ∧ yX7_readOut.cls ≠ "java/lang/invoke/MethodHandle" ∧ yX7_readOut.cls ≠ "java/lang/invoke/VarHandle" ∧ (parseMethodDescriptor yX7_readOut.desc).map (fun d => d.parameters.length) = some 0 := by decide +kernel
set_option maxHeartbeats 4000000 in
set_option maxRecDepth 100000 in
theorem c_X7_readOut (l : Launch) {D : va_G} {Y : Nat → ClassId} {A : ss_A} (hAD : AD 0 A)   {r : Int32} {σ σ' : ss_M} (hf : f_X7_readOut σ = some (r, σ')) : Met l yX7_readOut wsX7_readOut rm_X7_readOut (Pc0 0 D Y A σ [.ref (A 0 6 0)]) (Qi0 0 D Y A r σ') 0 0 (FA 0 A) := by
  rw [f_X7_readOut] at hf
  refine Met0 (cc := cX7_readOut) (maxL := 1) (ret := (some .int)) (own := RX7) (by decide +kernel) rfl hAD rfl (Nat.le_of_ble_eq_true rfl) ?_
  intro p e s m args below meth c S hr hlocks hW ls hl
  obtain ⟨hx, hb, hml, hown, hts⟩ := id S
  have iX7 : ∀ q ∈ wsX70, q ∈ wsX7_readOut := fun q h => List.mem_cons_of_mem _ (List.mem_append_left _ (List.mem_append_left _ (List.mem_append_right _ (h))))
  have hl : lv_has ls 1 [(0, .ref (A 0 6 0))] := hl
  refine lv_aload_n hx hb dX7_readOut_0 rfl (lv_at hl 0 rfl) ?_
  refine gf_X7_page hx hb hts hown hW (kS_in (by decide)) iX7 (List.mem_of_getElem? (i := 1) rfl) dX7_readOut_1 ?_
  obtain ⟨σ1, hf1, hf⟩ := ss_bind hf
  refine rv_v S (c_X4_remember l hAD (by decide) hf1) (cwV 0 hts gX7_readOut_X4_remember rfl rfl rfl hd_X4_remember ⟨(Nat.le_of_ble_eq_true rfl), (Nat.le_of_ble_eq_true rfl)⟩) hW (kS_in (by decide)) rfl rfl rfl hl.1 (Nat.le_of_ble_eq_true rfl) ⟨Nat.zero_le _, Nat.zero_le _⟩ dX7_readOut_4 (fun H locs hW => ?_)
  refine lv_aload_n hx hb dX7_readOut_7 rfl (lv_at hl 0 rfl) ?_
  refine gf_X7_page hx hb hts hown hW (kS_in (by decide)) iX7 (List.mem_of_getElem? (i := 1) rfl) dX7_readOut_8 ?_
  obtain ⟨r2, σ2, hf2, hf⟩ := ss_bd_some hf
  refine rv_i S (c_X4_say l hAD (by decide) hf2) (cwV 0 hts gX7_readOut_X4_say rfl rfl rfl hd_X4_say ⟨(Nat.le_of_ble_eq_true rfl), (Nat.le_of_ble_eq_true rfl)⟩) hW (kS_in (by decide)) rfl rfl rfl hl.1 (Nat.le_of_ble_eq_true rfl) ⟨Nat.zero_le _, Nat.zero_le _⟩ dX7_readOut_11 (fun H locs hW => ?_)
  exact re_i hx hb hr hlocks hW (Option.some.inj hf) dX7_readOut_14
def f_X7_week (p0 : Int32) (σ : ss_M) : Option (Int32 × ss_M) :=
  ss_bd (f_X7_isWithin p0 (1 : Int32) (20 : Int32) σ) (fun r1 σ1 => if r1 = (0 : Int32) then (ss_bd (f_X7_bad (-2 : Int32) σ1) (fun r4 σ4 => some (r4, σ4))) else (Option.bind (f_X4_remember 0 σ1) (fun σ3 => some ((sG (sGu σ3 1 0 ((sG σ3 1 0) + p0)) 1 0), (sGu σ3 1 0 ((sG σ3 1 0) + p0))))))
def rm_X7_week : Room := { frames := 6, cells := 0, slots := 0, locals := 300 }
theorem hd_X7_week : yX7_week.cls = RX7 ∧ yX7_week.cls ≠ "java/lang/invoke/MethodHandle" ∧ yX7_week.cls ≠ "java/lang/invoke/VarHandle" ∧ (parseMethodDescriptor yX7_week.desc).map (fun d => d.parameters.length) = some 1 := by decide +kernel
set_option maxHeartbeats 4000000 in
set_option maxRecDepth 100000 in
theorem c_X7_week (l : Launch) {D : va_G} {Y : Nat → ClassId} {A : ss_A} (hAD : AD 0 A) {p0 : Int32}  {r : Int32} {σ σ' : ss_M} (hf : f_X7_week p0 σ = some (r, σ')) : Met l yX7_week wsX7_week rm_X7_week (Pc0 0 D Y A σ [.ref (A 0 6 0), .int p0]) (Qi0 0 D Y A r σ') 0 0 (FA 0 A) := by
  rw [f_X7_week] at hf
  refine Met0 (cc := cX7_week) (maxL := 2) (ret := (some .int)) (own := RX7) (by decide +kernel) rfl hAD rfl (Nat.le_of_ble_eq_true rfl) ?_
  intro p e s m args below meth c S hr hlocks hW ls hl
  obtain ⟨hx, hb, hml, hown, hts⟩ := id S
  have iX7 : ∀ q ∈ wsX70, q ∈ wsX7_week := fun q h => List.mem_cons_of_mem _ (List.mem_append_left _ (List.mem_append_left _ (List.mem_append_right _ (h))))
  have iX4 : ∀ q ∈ wsX40, q ∈ wsX7_week := fun q h => List.mem_cons_of_mem _ (List.mem_append_left _ (List.mem_append_right _ (h)))
  have iX2 : ∀ q ∈ wsX20, q ∈ wsX7_week := fun q h => List.mem_cons_of_mem _ (List.mem_append_right _ (h))
  have hl : lv_has ls 2 [(0, .ref (A 0 6 0)), (1, .int p0)] := hl
  refine lv_iload_n hx hb dX7_week_0 rfl (lv_at hl 1 rfl) ?_
  refine lv_iconst (v := (1 : Int32)) hx hb dX7_week_1 (by decide) ?_
  refine lv_bipush (v := (20 : Int32)) hx hb dX7_week_2 (by decide) ?_
  obtain ⟨r1, σ1, hf1, hf⟩ := ss_bd_some hf
  refine rt_i S (c_X7_isWithin l hAD  hf1) (va_cwS 3 hts gX7_week_X7_isWithin rfl rfl rfl hd_X7_isWithin ⟨(Nat.le_of_ble_eq_true rfl), (Nat.le_of_ble_eq_true rfl)⟩) hW rfl rfl hl.1 (Nat.le_of_ble_eq_true rfl) ⟨Nat.zero_le _, Nat.zero_le _⟩ dX7_week_4 (fun H locs hW => ?_)
  refine lv_if_ne (tgt := 17) hx hb dX7_week_7 (by decide) (fun q2 => ?_) (fun q2 => ?_)
  · rw [if_neg q2] at hf
    refine lv_aload_n hx hb dX7_week_17 rfl (lv_at hl 0 rfl) ?_
    refine gf_X7_page hx hb hts hown hW (kS_in (by decide)) iX7 (List.mem_of_getElem? (i := 1) rfl) dX7_week_18 ?_
    obtain ⟨σ3, hf3, hf⟩ := ss_bind hf
    refine rv_v S (c_X4_remember l hAD (by decide) hf3) (cwV 0 hts gX7_week_X4_remember rfl rfl rfl hd_X4_remember ⟨(Nat.le_of_ble_eq_true rfl), (Nat.le_of_ble_eq_true rfl)⟩) hW (kS_in (by decide)) rfl rfl rfl hl.1 (Nat.le_of_ble_eq_true rfl) ⟨Nat.zero_le _, Nat.zero_le _⟩ dX7_week_21 (fun H locs hW => ?_)
    refine lv_aload_n hx hb dX7_week_24 rfl (lv_at hl 0 rfl) ?_
    refine gf_X7_page hx hb hts hown hW (kS_in (by decide)) iX7 (List.mem_of_getElem? (i := 1) rfl) dX7_week_25 ?_
    refine gf_X4_marks hx hb hts hown hW (kS_in (by decide)) iX4 (List.mem_of_getElem? (i := 2) rfl) dX7_week_28 ?_
    refine lv_dup hx hb dX7_week_31 rfl ?_
    refine gf_X2_week hx hb hts hown hW (kS_in (by decide)) iX2 (List.mem_of_getElem? (i := 3) rfl) dX7_week_32 ?_
    refine lv_iload_n hx hb dX7_week_35 rfl (lv_at hl 1 rfl) ?_
    refine lv_iadd hx hb dX7_week_36 ?_
    refine pf_X2_week hx hb hts hown hW (kS_in (by decide)) iX2 (List.mem_of_getElem? (i := 3) rfl) dX7_week_37 (fun H locs hW => ?_)
    refine lv_aload_n hx hb dX7_week_40 rfl (lv_at hl 0 rfl) ?_
    refine gf_X7_page hx hb hts hown hW (kS_in (by decide)) iX7 (List.mem_of_getElem? (i := 1) rfl) dX7_week_41 ?_
    refine gf_X4_marks hx hb hts hown hW (kS_in (by decide)) iX4 (List.mem_of_getElem? (i := 2) rfl) dX7_week_44 ?_
    refine gf_X2_week hx hb hts hown hW (kS_in (by decide)) iX2 (List.mem_of_getElem? (i := 3) rfl) dX7_week_47 ?_
    exact re_i hx hb hr hlocks hW (Option.some.inj hf) dX7_week_50
  · rw [if_pos q2] at hf
    refine lv_aload_n hx hb dX7_week_10 rfl (lv_at hl 0 rfl) ?_
    refine lv_bipush (v := (-2 : Int32)) hx hb dX7_week_11 (by decide) ?_
    obtain ⟨r4, σ4, hf4, hf⟩ := ss_bd_some hf
    refine rv_i S (c_X7_bad l hAD  hf4) (cwV 1 hts gX7_week_X7_bad rfl rfl rfl hd_X7_bad ⟨(Nat.le_of_ble_eq_true rfl), (Nat.le_of_ble_eq_true rfl)⟩) hW (kS_in (by decide)) rfl rfl rfl hl.1 (Nat.le_of_ble_eq_true rfl) ⟨Nat.zero_le _, Nat.zero_le _⟩ dX7_week_13 (fun H locs hW => ?_)
    exact re_i hx hb hr hlocks hW (Option.some.inj hf) dX7_week_16
def f_X7_undo (σ : ss_M) : Option (Int32 × ss_M) :=
  if (sG σ 7 0) = (0 : Int32) then (ss_bd (f_X7_no (-3 : Int32) σ) (fun r3 σ3 => some (r3, σ3))) else (Option.bind (f_X4_goBack 0 σ) (fun σ2 => some ((sG σ2 0 0), σ2)))
def rm_X7_undo : Room := { frames := 6, cells := 0, slots := 0, locals := 300 }
theorem hd_X7_undo : yX7_undo.cls = RX7 ∧ yX7_undo.cls ≠ "java/lang/invoke/MethodHandle" ∧ yX7_undo.cls ≠ "java/lang/invoke/VarHandle" ∧ (parseMethodDescriptor yX7_undo.desc).map (fun d => d.parameters.length) = some 0 := by decide +kernel
set_option maxHeartbeats 4000000 in
set_option maxRecDepth 100000 in
theorem c_X7_undo (l : Launch) {D : va_G} {Y : Nat → ClassId} {A : ss_A} (hAD : AD 0 A)   {r : Int32} {σ σ' : ss_M} (hf : f_X7_undo σ = some (r, σ')) : Met l yX7_undo wsX7_undo rm_X7_undo (Pc0 0 D Y A σ [.ref (A 0 6 0)]) (Qi0 0 D Y A r σ') 0 0 (FA 0 A) := by
  rw [f_X7_undo] at hf
  refine Met0 (cc := cX7_undo) (maxL := 1) (ret := (some .int)) (own := RX7) (by decide +kernel) rfl hAD rfl (Nat.le_of_ble_eq_true rfl) ?_
  intro p e s m args below meth c S hr hlocks hW ls hl
  obtain ⟨hx, hb, hml, hown, hts⟩ := id S
  have iX7 : ∀ q ∈ wsX70, q ∈ wsX7_undo := fun q h => List.mem_cons_of_mem _ (List.mem_append_left _ (List.mem_append_left _ (List.mem_append_right _ (h))))
  have iX4 : ∀ q ∈ wsX40, q ∈ wsX7_undo := fun q h => List.mem_cons_of_mem _ (List.mem_append_left _ (List.mem_append_right _ (h)))
  have iX2 : ∀ q ∈ wsX20, q ∈ wsX7_undo := fun q h => List.mem_cons_of_mem _ (List.mem_append_right _ (h))
  have hl : lv_has ls 1 [(0, .ref (A 0 6 0))] := hl
  refine lv_aload_n hx hb dX7_undo_0 rfl (lv_at hl 0 rfl) ?_
  refine gf_X7_page hx hb hts hown hW (kS_in (by decide)) iX7 (List.mem_of_getElem? (i := 1) rfl) dX7_undo_1 ?_
  refine gf_X4_pasts hx hb hts hown hW (kS_in (by decide)) iX4 (List.mem_of_getElem? (i := 2) rfl) dX7_undo_4 ?_
  refine lv_if_ne (tgt := 17) hx hb dX7_undo_7 (by decide) (fun q1 => ?_) (fun q1 => ?_)
  · rw [if_neg q1] at hf
    refine lv_aload_n hx hb dX7_undo_17 rfl (lv_at hl 0 rfl) ?_
    refine gf_X7_page hx hb hts hown hW (kS_in (by decide)) iX7 (List.mem_of_getElem? (i := 1) rfl) dX7_undo_18 ?_
    obtain ⟨σ2, hf2, hf⟩ := ss_bind hf
    refine rv_v S (c_X4_goBack l hAD (by decide) hf2) (cwV 0 hts gX7_undo_X4_goBack rfl rfl rfl hd_X4_goBack ⟨(Nat.le_of_ble_eq_true rfl), (Nat.le_of_ble_eq_true rfl)⟩) hW (kS_in (by decide)) rfl rfl rfl hl.1 (Nat.le_of_ble_eq_true rfl) ⟨Nat.zero_le _, Nat.zero_le _⟩ dX7_undo_21 (fun H locs hW => ?_)
    refine lv_aload_n hx hb dX7_undo_24 rfl (lv_at hl 0 rfl) ?_
    refine gf_X7_page hx hb hts hown hW (kS_in (by decide)) iX7 (List.mem_of_getElem? (i := 1) rfl) dX7_undo_25 ?_
    refine gf_X4_marks hx hb hts hown hW (kS_in (by decide)) iX4 (List.mem_of_getElem? (i := 3) rfl) dX7_undo_28 ?_
    refine gf_X2_purse hx hb hts hown hW (kS_in (by decide)) iX2 (List.mem_of_getElem? (i := 4) rfl) dX7_undo_31 ?_
    exact re_i hx hb hr hlocks hW (Option.some.inj hf) dX7_undo_34
  · rw [if_pos q1] at hf
    refine lv_aload_n hx hb dX7_undo_10 rfl (lv_at hl 0 rfl) ?_
    refine lv_bipush (v := (-3 : Int32)) hx hb dX7_undo_11 (by decide) ?_
    obtain ⟨r3, σ3, hf3, hf⟩ := ss_bd_some hf
    refine rv_i S (c_X7_no l hAD  hf3) (cwV 1 hts gX7_undo_X7_no rfl rfl rfl hd_X7_no ⟨(Nat.le_of_ble_eq_true rfl), (Nat.le_of_ble_eq_true rfl)⟩) hW (kS_in (by decide)) rfl rfl rfl hl.1 (Nat.le_of_ble_eq_true rfl) ⟨Nat.zero_le _, Nat.zero_le _⟩ dX7_undo_13 (fun H locs hW => ?_)
    exact re_i hx hb hr hlocks hW (Option.some.inj hf) dX7_undo_16
def f_X7_of (p0 : Int32) (p1 : Int32) (σ : ss_M) : Option (Int32 × ss_M) :=
  ss_bd (f_X4_has 0 p0 σ) (fun r1 σ1 => if r1 = (0 : Int32) then (ss_bd (f_X7_bad (-10 : Int32) σ1) (fun r13 σ13 => some (r13, σ13))) else (if p1 = (0 : Int32) then (if gd p0 12 = true then (some ((sA σ1 4 0 (p0).toNatClampNeg), σ1)) else none) else if p1 = (1 : Int32) then (if gd p0 12 = true then (some ((sA σ1 0 0 (p0).toNatClampNeg), σ1)) else none) else if p1 = (2 : Int32) then (if gd p0 12 = true then (some ((sA σ1 1 0 (p0).toNatClampNeg), σ1)) else none) else if p1 = (3 : Int32) then (if gd p0 12 = true then (ss_bd (f_X4_costOf 0 (sA σ1 0 0 (p0).toNatClampNeg) σ1) (fun r11 σ11 => some (r11, σ11))) else none) else (ss_bd (f_X7_bad (-10 : Int32) σ1) (fun r12 σ12 => some (r12, σ12)))))
def rm_X7_of : Room := { frames := 4, cells := 0, slots := 0, locals := 200 }
theorem hd_X7_of : yX7_of.cls = RX7 ∧ yX7_of.cls ≠ "java/lang/invoke/MethodHandle" ∧ yX7_of.cls ≠ "java/lang/invoke/VarHandle" ∧ (parseMethodDescriptor yX7_of.desc).map (fun d => d.parameters.length) = some 2 := by decide +kernel
set_option maxHeartbeats 4000000 in
set_option maxRecDepth 100000 in
theorem c_X7_of (l : Launch) {D : va_G} {Y : Nat → ClassId} {A : ss_A} (hAD : AD 0 A) {p0 : Int32} {p1 : Int32}  {r : Int32} {σ σ' : ss_M} (hf : f_X7_of p0 p1 σ = some (r, σ')) : Met l yX7_of wsX7_of rm_X7_of (Pc0 0 D Y A σ [.ref (A 0 6 0), .int p0, .int p1]) (Qi0 0 D Y A r σ') 0 0 (FA 0 A) := by
  rw [f_X7_of] at hf
  refine Met0 (cc := cX7_of) (maxL := 3) (ret := (some .int)) (own := RX7) (by decide +kernel) rfl hAD rfl (Nat.le_of_ble_eq_true rfl) ?_
  intro p e s m args below meth c S hr hlocks hW ls hl
  obtain ⟨hx, hb, hml, hown, hts⟩ := id S
  have iX7 : ∀ q ∈ wsX70, q ∈ wsX7_of := fun q h => List.mem_cons_of_mem _ (List.mem_append_left _ (List.mem_append_left _ (List.mem_append_right _ (h))))
  have iX4 : ∀ q ∈ wsX40, q ∈ wsX7_of := fun q h => List.mem_cons_of_mem _ (List.mem_append_left _ (List.mem_append_right _ (h)))
  have iX2 : ∀ q ∈ wsX20, q ∈ wsX7_of := fun q h => List.mem_cons_of_mem _ (List.mem_append_right _ (h))
  have hl : lv_has ls 3 [(0, .ref (A 0 6 0)), (1, .int p0), (2, .int p1)] := hl
  refine lv_aload_n hx hb dX7_of_0 rfl (lv_at hl 0 rfl) ?_
  refine gf_X7_page hx hb hts hown hW (kS_in (by decide)) iX7 (List.mem_of_getElem? (i := 1) rfl) dX7_of_1 ?_
  refine lv_iload_n hx hb dX7_of_4 rfl (lv_at hl 1 rfl) ?_
  obtain ⟨r1, σ1, hf1, hf⟩ := ss_bd_some hf
  refine rv_i S (c_X4_has l hAD (by decide) hf1) (cwV 1 hts gX7_of_X4_has rfl rfl rfl hd_X4_has ⟨(Nat.le_of_ble_eq_true rfl), (Nat.le_of_ble_eq_true rfl)⟩) hW (kS_in (by decide)) rfl rfl rfl hl.1 (Nat.le_of_ble_eq_true rfl) ⟨Nat.zero_le _, Nat.zero_le _⟩ dX7_of_5 (fun H locs hW => ?_)
  refine lv_if_ne (tgt := 18) hx hb dX7_of_8 (by decide) (fun q2 => ?_) (fun q2 => ?_)
  · rw [if_neg q2] at hf
    refine lv_iload_n hx hb dX7_of_18 rfl (lv_at hl 2 rfl) ?_
    by_cases q3 : p1 = (0 : Int32)
    · rw [if_pos q3] at hf
      refine lv_tableIn (off := 29) (tgt := 48) hx hb dX7_of_19 (by rw [q3]; decide) (by rw [q3]; decide) (by rw [q3]; decide) (by decide) ?_
      refine lv_aload_n hx hb dX7_of_48 rfl (lv_at hl 0 rfl) ?_
      refine gf_X7_page hx hb hts hown hW (kS_in (by decide)) iX7 (List.mem_of_getElem? (i := 1) rfl) dX7_of_49 ?_
      refine gf_X4_lengths hx hb hts hown hW (kS_in (by decide)) iX4 (List.mem_of_getElem? (i := 2) rfl) dX7_of_52 ?_
      refine lv_iload_n hx hb dX7_of_55 rfl (lv_at hl 1 rfl) ?_
      obtain ⟨g4, hf⟩ := ss_if hf
      refine ra_i hx hb hW (kS_in (by decide)) g4 dX7_of_56 ?_
      exact re_i hx hb hr hlocks hW (Option.some.inj hf) dX7_of_57
    · rw [if_neg q3] at hf
      by_cases q5 : p1 = (1 : Int32)
      · rw [if_pos q5] at hf
        refine lv_tableIn (off := 39) (tgt := 58) hx hb dX7_of_19 (by rw [q5]; decide) (by rw [q5]; decide) (by rw [q5]; decide) (by decide) ?_
        refine lv_aload_n hx hb dX7_of_58 rfl (lv_at hl 0 rfl) ?_
        refine gf_X7_page hx hb hts hown hW (kS_in (by decide)) iX7 (List.mem_of_getElem? (i := 1) rfl) dX7_of_59 ?_
        refine gf_X4_marks hx hb hts hown hW (kS_in (by decide)) iX4 (List.mem_of_getElem? (i := 3) rfl) dX7_of_62 ?_
        refine gf_X2_kinds hx hb hts hown hW (kS_in (by decide)) iX2 (List.mem_of_getElem? (i := 4) rfl) dX7_of_65 ?_
        refine lv_iload_n hx hb dX7_of_68 rfl (lv_at hl 1 rfl) ?_
        obtain ⟨g6, hf⟩ := ss_if hf
        refine ra_i hx hb hW (kS_in (by decide)) g6 dX7_of_69 ?_
        exact re_i hx hb hr hlocks hW (Option.some.inj hf) dX7_of_70
      · rw [if_neg q5] at hf
        by_cases q7 : p1 = (2 : Int32)
        · rw [if_pos q7] at hf
          refine lv_tableIn (off := 52) (tgt := 71) hx hb dX7_of_19 (by rw [q7]; decide) (by rw [q7]; decide) (by rw [q7]; decide) (by decide) ?_
          refine lv_aload_n hx hb dX7_of_71 rfl (lv_at hl 0 rfl) ?_
          refine gf_X7_page hx hb hts hown hW (kS_in (by decide)) iX7 (List.mem_of_getElem? (i := 1) rfl) dX7_of_72 ?_
          refine gf_X4_marks hx hb hts hown hW (kS_in (by decide)) iX4 (List.mem_of_getElem? (i := 3) rfl) dX7_of_75 ?_
          refine gf_X2_reads hx hb hts hown hW (kS_in (by decide)) iX2 (List.mem_of_getElem? (i := 5) rfl) dX7_of_78 ?_
          refine lv_iload_n hx hb dX7_of_81 rfl (lv_at hl 1 rfl) ?_
          obtain ⟨g8, hf⟩ := ss_if hf
          refine ra_i hx hb hW (kS_in (by decide)) g8 dX7_of_82 ?_
          exact re_i hx hb hr hlocks hW (Option.some.inj hf) dX7_of_83
        · rw [if_neg q7] at hf
          by_cases q9 : p1 = (3 : Int32)
          · rw [if_pos q9] at hf
            refine lv_tableIn (off := 65) (tgt := 84) hx hb dX7_of_19 (by rw [q9]; decide) (by rw [q9]; decide) (by rw [q9]; decide) (by decide) ?_
            refine lv_aload_n hx hb dX7_of_84 rfl (lv_at hl 0 rfl) ?_
            refine gf_X7_page hx hb hts hown hW (kS_in (by decide)) iX7 (List.mem_of_getElem? (i := 1) rfl) dX7_of_85 ?_
            refine lv_aload_n hx hb dX7_of_88 rfl (lv_at hl 0 rfl) ?_
            refine gf_X7_page hx hb hts hown hW (kS_in (by decide)) iX7 (List.mem_of_getElem? (i := 1) rfl) dX7_of_89 ?_
            refine gf_X4_marks hx hb hts hown hW (kS_in (by decide)) iX4 (List.mem_of_getElem? (i := 3) rfl) dX7_of_92 ?_
            refine gf_X2_kinds hx hb hts hown hW (kS_in (by decide)) iX2 (List.mem_of_getElem? (i := 4) rfl) dX7_of_95 ?_
            refine lv_iload_n hx hb dX7_of_98 rfl (lv_at hl 1 rfl) ?_
            obtain ⟨g10, hf⟩ := ss_if hf
            refine ra_i hx hb hW (kS_in (by decide)) g10 dX7_of_99 ?_
            obtain ⟨r11, σ11, hf11, hf⟩ := ss_bd_some hf
            refine rv_i S (c_X4_costOf l hAD (by decide) hf11) (cwV 1 hts gX7_of_X4_costOf rfl rfl rfl hd_X4_costOf ⟨(Nat.le_of_ble_eq_true rfl), (Nat.le_of_ble_eq_true rfl)⟩) hW (kS_in (by decide)) rfl rfl rfl hl.1 (Nat.le_of_ble_eq_true rfl) ⟨Nat.zero_le _, Nat.zero_le _⟩ dX7_of_100 (fun H locs hW => ?_)
            exact re_i hx hb hr hlocks hW (Option.some.inj hf) dX7_of_103
          · rw [if_neg q9] at hf
            refine lv_tableOut (tgt := 104) hx hb dX7_of_19 (by have z := And.intro (lv_neT q3 (a := 0) rfl) (And.intro (lv_neT q5 (a := 1) rfl) (And.intro (lv_neT q7 (a := 2) rfl) (lv_neT q9 (a := 3) rfl))); omega) (by decide) ?_
            refine lv_aload_n hx hb dX7_of_104 rfl (lv_at hl 0 rfl) ?_
            refine lv_bipush (v := (-10 : Int32)) hx hb dX7_of_105 (by decide) ?_
            obtain ⟨r12, σ12, hf12, hf⟩ := ss_bd_some hf
            refine rv_i S (c_X7_bad l hAD  hf12) (cwV 1 hts gX7_of_X7_bad rfl rfl rfl hd_X7_bad ⟨(Nat.le_of_ble_eq_true rfl), (Nat.le_of_ble_eq_true rfl)⟩) hW (kS_in (by decide)) rfl rfl rfl hl.1 (Nat.le_of_ble_eq_true rfl) ⟨Nat.zero_le _, Nat.zero_le _⟩ dX7_of_107 (fun H locs hW => ?_)
            exact re_i hx hb hr hlocks hW (Option.some.inj hf) dX7_of_110
  · rw [if_pos q2] at hf
    refine lv_aload_n hx hb dX7_of_11 rfl (lv_at hl 0 rfl) ?_
    refine lv_bipush (v := (-10 : Int32)) hx hb dX7_of_12 (by decide) ?_
    obtain ⟨r13, σ13, hf13, hf⟩ := ss_bd_some hf
    refine rv_i S (c_X7_bad l hAD  hf13) (cwV 1 hts gX7_of_X7_bad rfl rfl rfl hd_X7_bad ⟨(Nat.le_of_ble_eq_true rfl), (Nat.le_of_ble_eq_true rfl)⟩) hW (kS_in (by decide)) rfl rfl rfl hl.1 (Nat.le_of_ble_eq_true rfl) ⟨Nat.zero_le _, Nat.zero_le _⟩ dX7_of_14 (fun H locs hW => ?_)
    exact re_i hx hb hr hlocks hW (Option.some.inj hf) dX7_of_17
def f_X7_costs (p0 : Int32) (σ : ss_M) : Option (Int32 × ss_M) :=
  ss_bd (f_X1_isOne p0 σ) (fun r1 σ1 => if r1 = (0 : Int32) then (ss_bd (f_X7_bad (-2 : Int32) σ1) (fun r3 σ3 => some (r3, σ3))) else (ss_bd (f_X4_costOf 0 p0 σ1) (fun r4 σ4 => some (r4, σ4))))
def rm_X7_costs : Room := { frames := 4, cells := 0, slots := 0, locals := 200 }
theorem hd_X7_costs : yX7_costs.cls = RX7 ∧ yX7_costs.cls ≠ "java/lang/invoke/MethodHandle" ∧ yX7_costs.cls ≠ "java/lang/invoke/VarHandle" ∧ (parseMethodDescriptor yX7_costs.desc).map (fun d => d.parameters.length) = some 1 := by decide +kernel
set_option maxHeartbeats 4000000 in
set_option maxRecDepth 100000 in
theorem c_X7_costs (l : Launch) {D : va_G} {Y : Nat → ClassId} {A : ss_A} (hAD : AD 0 A) {p0 : Int32}  {r : Int32} {σ σ' : ss_M} (hf : f_X7_costs p0 σ = some (r, σ')) : Met l yX7_costs wsX7_costs rm_X7_costs (Pc0 0 D Y A σ [.ref (A 0 6 0), .int p0]) (Qi0 0 D Y A r σ') 0 0 (FA 0 A) := by
  rw [f_X7_costs] at hf
  refine Met0 (cc := cX7_costs) (maxL := 2) (ret := (some .int)) (own := RX7) (by decide +kernel) rfl hAD rfl (Nat.le_of_ble_eq_true rfl) ?_
  intro p e s m args below meth c S hr hlocks hW ls hl
  obtain ⟨hx, hb, hml, hown, hts⟩ := id S
  have iX7 : ∀ q ∈ wsX70, q ∈ wsX7_costs := fun q h => List.mem_cons_of_mem _ (List.mem_append_left _ (List.mem_append_left _ (List.mem_append_right _ (h))))
  have hl : lv_has ls 2 [(0, .ref (A 0 6 0)), (1, .int p0)] := hl
  refine lv_iload_n hx hb dX7_costs_0 rfl (lv_at hl 1 rfl) ?_
  obtain ⟨r1, σ1, hf1, hf⟩ := ss_bd_some hf
  refine rt_i S (c_X1_isOne l hAD  hf1) (va_cwS 1 hts gX7_costs_X1_isOne rfl rfl rfl hd_X1_isOne ⟨(Nat.le_of_ble_eq_true rfl), (Nat.le_of_ble_eq_true rfl)⟩) hW rfl rfl hl.1 (Nat.le_of_ble_eq_true rfl) ⟨Nat.zero_le _, Nat.zero_le _⟩ dX7_costs_1 (fun H locs hW => ?_)
  refine lv_if_eq (tgt := 18) hx hb dX7_costs_4 (by decide) (fun q2 => ?_) (fun q2 => ?_)
  · rw [if_pos q2] at hf
    refine lv_aload_n hx hb dX7_costs_18 rfl (lv_at hl 0 rfl) ?_
    refine lv_bipush (v := (-2 : Int32)) hx hb dX7_costs_19 (by decide) ?_
    obtain ⟨r3, σ3, hf3, hf⟩ := ss_bd_some hf
    refine rv_i S (c_X7_bad l hAD  hf3) (cwV 1 hts gX7_costs_X7_bad rfl rfl rfl hd_X7_bad ⟨(Nat.le_of_ble_eq_true rfl), (Nat.le_of_ble_eq_true rfl)⟩) hW (kS_in (by decide)) rfl rfl rfl hl.1 (Nat.le_of_ble_eq_true rfl) ⟨Nat.zero_le _, Nat.zero_le _⟩ dX7_costs_21 (fun H locs hW => ?_)
    exact re_i hx hb hr hlocks hW (Option.some.inj hf) dX7_costs_24
  · rw [if_neg q2] at hf
    refine lv_aload_n hx hb dX7_costs_7 rfl (lv_at hl 0 rfl) ?_
    refine gf_X7_page hx hb hts hown hW (kS_in (by decide)) iX7 (List.mem_of_getElem? (i := 1) rfl) dX7_costs_8 ?_
    refine lv_iload_n hx hb dX7_costs_11 rfl (lv_at hl 1 rfl) ?_
    obtain ⟨r4, σ4, hf4, hf⟩ := ss_bd_some hf
    refine rv_i S (c_X4_costOf l hAD (by decide) hf4) (cwV 1 hts gX7_costs_X4_costOf rfl rfl rfl hd_X4_costOf ⟨(Nat.le_of_ble_eq_true rfl), (Nat.le_of_ble_eq_true rfl)⟩) hW (kS_in (by decide)) rfl rfl rfl hl.1 (Nat.le_of_ble_eq_true rfl) ⟨Nat.zero_le _, Nat.zero_le _⟩ dX7_costs_12 (fun H locs hW => ?_)
    refine lv_goto (tgt := 24) hx hb dX7_costs_15 (by decide) ?_
    exact re_i hx hb hr hlocks hW (Option.some.inj hf) dX7_costs_24
def f_X7_gives_j22 (σ22_ : ss_M) : Option (Int32 × ss_M) :=
  ss_bd (f_X7_bad (-2 : Int32) σ22_) (fun r2 σ2 => some (r2, σ2))
def f_X7_gives (p0 : Int32) (p1 : Int32) (σ : ss_M) : Option (Int32 × ss_M) :=
  ss_bd (f_X1_isOne p0 σ) (fun r1 σ1 => if r1 = (0 : Int32) then (f_X7_gives_j22 σ1) else (ss_bd (f_X7_isWithin p1 (0 : Int32) (sG σ1 3 0) σ1) (fun r4 σ4 => if r4 = (0 : Int32) then (f_X7_gives_j22 σ4) else (ss_bd (f_X1_breathBehind p0 p1 (sG σ4 3 0) σ4) (fun r6 σ6 => some (r6, σ6))))))
def rm_X7_gives : Room := { frames := 4, cells := 0, slots := 0, locals := 200 }
theorem hd_X7_gives : yX7_gives.cls = RX7 ∧ yX7_gives.cls ≠ "java/lang/invoke/MethodHandle" ∧ yX7_gives.cls ≠ "java/lang/invoke/VarHandle" ∧ (parseMethodDescriptor yX7_gives.desc).map (fun d => d.parameters.length) = some 2 := by decide +kernel
set_option maxHeartbeats 4000000 in
set_option maxRecDepth 100000 in
theorem c_X7_gives (l : Launch) {D : va_G} {Y : Nat → ClassId} {A : ss_A} (hAD : AD 0 A) {p0 : Int32} {p1 : Int32}  {r : Int32} {σ σ' : ss_M} (hf : f_X7_gives p0 p1 σ = some (r, σ')) : Met l yX7_gives wsX7_gives rm_X7_gives (Pc0 0 D Y A σ [.ref (A 0 6 0), .int p0, .int p1]) (Qi0 0 D Y A r σ') 0 0 (FA 0 A) := by
  rw [f_X7_gives] at hf
  refine Met0 (cc := cX7_gives) (maxL := 3) (ret := (some .int)) (own := RX7) (by decide +kernel) rfl hAD rfl (Nat.le_of_ble_eq_true rfl) ?_
  intro p e s m args below meth c S hr hlocks hW ls hl
  obtain ⟨hx, hb, hml, hown, hts⟩ := id S
  have iX7 : ∀ q ∈ wsX70, q ∈ wsX7_gives := fun q h => List.mem_cons_of_mem _ (List.mem_append_left _ (List.mem_append_right _ (h)))
  have iX4 : ∀ q ∈ wsX40, q ∈ wsX7_gives := fun q h => List.mem_cons_of_mem _ (List.mem_append_right _ (h))
  have hl : lv_has ls 3 [(0, .ref (A 0 6 0)), (1, .int p0), (2, .int p1)] := hl
  refine lv_iload_n hx hb dX7_gives_0 rfl (lv_at hl 1 rfl) ?_
  obtain ⟨r1, σ1, hf1, hf⟩ := ss_bd_some hf
  refine rt_i S (c_X1_isOne l hAD  hf1) (va_cwS 1 hts gX7_gives_X1_isOne rfl rfl rfl hd_X1_isOne ⟨(Nat.le_of_ble_eq_true rfl), (Nat.le_of_ble_eq_true rfl)⟩) hW rfl rfl hl.1 (Nat.le_of_ble_eq_true rfl) ⟨Nat.zero_le _, Nat.zero_le _⟩ dX7_gives_1 (fun H locs hW => ?_)
  have J22 : ∀ (σ22_ : ss_M) (H : Heap) (locs : List Loc) (ls : Array Slot), sW 0 D Y A σ22_ s s.heap H locs → lv_has ls 3 [(0, .ref (A 0 6 0))] → f_X7_gives_j22 σ22_ = some (r, σ') → W p l e rm_X7_gives s m args below meth c H locs 0 0 (MQ below (Qi0 0 D Y A r σ') args s 0 0 (FA 0 A)) (F0 m 22 ls []) := by
    intro σ22_ H locs ls hW hl hf
    rw [f_X7_gives_j22] at hf
    refine lv_aload_n hx hb dX7_gives_22 rfl (lv_at hl 0 rfl) ?_
    refine lv_bipush (v := (-2 : Int32)) hx hb dX7_gives_23 (by decide) ?_
    obtain ⟨r2, σ2, hf2, hf⟩ := ss_bd_some hf
    refine rv_i S (c_X7_bad l hAD  hf2) (cwV 1 hts gX7_gives_X7_bad rfl rfl rfl hd_X7_bad ⟨(Nat.le_of_ble_eq_true rfl), (Nat.le_of_ble_eq_true rfl)⟩) hW (kS_in (by decide)) rfl rfl rfl hl.1 (Nat.le_of_ble_eq_true rfl) ⟨Nat.zero_le _, Nat.zero_le _⟩ dX7_gives_25 (fun H locs hW => ?_)
    exact re_i hx hb hr hlocks hW (Option.some.inj hf) dX7_gives_28
  refine lv_if_eq (tgt := 22) hx hb dX7_gives_4 (by decide) (fun q3 => ?_) (fun q3 => ?_)
  · rw [if_pos q3] at hf
    exact J22 σ1 _ _ _ hW (lv_sub hl [0] rfl) hf
  · rw [if_neg q3] at hf
    refine lv_iload_n hx hb dX7_gives_7 rfl (lv_at hl 2 rfl) ?_
    refine lv_iconst (v := (0 : Int32)) hx hb dX7_gives_8 (by decide) ?_
    refine lv_aload_n hx hb dX7_gives_9 rfl (lv_at hl 0 rfl) ?_
    refine gf_X7_page hx hb hts hown hW (kS_in (by decide)) iX7 (List.mem_of_getElem? (i := 1) rfl) dX7_gives_10 ?_
    refine gf_X4_breath hx hb hts hown hW (kS_in (by decide)) iX4 (List.mem_of_getElem? (i := 2) rfl) dX7_gives_13 ?_
    obtain ⟨r4, σ4, hf4, hf⟩ := ss_bd_some hf
    refine rt_i S (c_X7_isWithin l hAD  hf4) (va_cwS 3 hts gX7_gives_X7_isWithin rfl rfl rfl hd_X7_isWithin ⟨(Nat.le_of_ble_eq_true rfl), (Nat.le_of_ble_eq_true rfl)⟩) hW rfl rfl hl.1 (Nat.le_of_ble_eq_true rfl) ⟨Nat.zero_le _, Nat.zero_le _⟩ dX7_gives_16 (fun H locs hW => ?_)
    refine lv_if_ne (tgt := 29) hx hb dX7_gives_19 (by decide) (fun q5 => ?_) (fun q5 => ?_)
    · rw [if_neg q5] at hf
      refine lv_iload_n hx hb dX7_gives_29 rfl (lv_at hl 1 rfl) ?_
      refine lv_iload_n hx hb dX7_gives_30 rfl (lv_at hl 2 rfl) ?_
      refine lv_aload_n hx hb dX7_gives_31 rfl (lv_at hl 0 rfl) ?_
      refine gf_X7_page hx hb hts hown hW (kS_in (by decide)) iX7 (List.mem_of_getElem? (i := 1) rfl) dX7_gives_32 ?_
      refine gf_X4_breath hx hb hts hown hW (kS_in (by decide)) iX4 (List.mem_of_getElem? (i := 2) rfl) dX7_gives_35 ?_
      obtain ⟨r6, σ6, hf6, hf⟩ := ss_bd_some hf
      refine rt_i S (c_X1_breathBehind l hAD  hf6) (va_cwS 3 hts gX7_gives_X1_breathBehind rfl rfl rfl hd_X1_breathBehind ⟨(Nat.le_of_ble_eq_true rfl), (Nat.le_of_ble_eq_true rfl)⟩) hW rfl rfl hl.1 (Nat.le_of_ble_eq_true rfl) ⟨Nat.zero_le _, Nat.zero_le _⟩ dX7_gives_38 (fun H locs hW => ?_)
      exact re_i hx hb hr hlocks hW (Option.some.inj hf) dX7_gives_41
    · rw [if_pos q5] at hf
      exact J22 σ4 _ _ _ hW (lv_sub hl [0] rfl) hf
def f_X7_stuck (σ : ss_M) : Option (Int32 × ss_M) :=
  ss_bd (f_X4_stuckAt 0 (sG σ 3 0) (-1 : Int32) σ) (fun r1 σ1 => some (r1, σ1))
def rm_X7_stuck : Room := { frames := 8, cells := 0, slots := 0, locals := 400 }
theorem hd_X7_stuck : yX7_stuck.cls = RX7 ∧ yX7_stuck.cls ≠ "java/lang/invoke/MethodHandle" ∧ yX7_stuck.cls ≠ "java/lang/invoke/VarHandle" ∧ (parseMethodDescriptor yX7_stuck.desc).map (fun d => d.parameters.length) = some 0 := by decide +kernel
set_option maxHeartbeats 4000000 in
set_option maxRecDepth 100000 in
theorem c_X7_stuck (l : Launch) {D : va_G} {Y : Nat → ClassId} {A : ss_A} (hAD : AD 0 A)   {r : Int32} {σ σ' : ss_M} (hf : f_X7_stuck σ = some (r, σ')) : Met l yX7_stuck wsX7_stuck rm_X7_stuck (Pc0 0 D Y A σ [.ref (A 0 6 0)]) (Qi0 0 D Y A r σ') 0 0 (FA 0 A) := by
  rw [f_X7_stuck] at hf
  refine Met0 (cc := cX7_stuck) (maxL := 1) (ret := (some .int)) (own := RX7) (by decide +kernel) rfl hAD rfl (Nat.le_of_ble_eq_true rfl) ?_
  intro p e s m args below meth c S hr hlocks hW ls hl
  obtain ⟨hx, hb, hml, hown, hts⟩ := id S
  have iX7 : ∀ q ∈ wsX70, q ∈ wsX7_stuck := fun q h => List.mem_cons_of_mem _ (List.mem_append_left _ (List.mem_append_left _ (List.mem_append_right _ (h))))
  have iX4 : ∀ q ∈ wsX40, q ∈ wsX7_stuck := fun q h => List.mem_cons_of_mem _ (List.mem_append_left _ (List.mem_append_right _ (h)))
  have hl : lv_has ls 1 [(0, .ref (A 0 6 0))] := hl
  refine lv_aload_n hx hb dX7_stuck_0 rfl (lv_at hl 0 rfl) ?_
  refine gf_X7_page hx hb hts hown hW (kS_in (by decide)) iX7 (List.mem_of_getElem? (i := 1) rfl) dX7_stuck_1 ?_
  refine lv_aload_n hx hb dX7_stuck_4 rfl (lv_at hl 0 rfl) ?_
  refine gf_X7_page hx hb hts hown hW (kS_in (by decide)) iX7 (List.mem_of_getElem? (i := 1) rfl) dX7_stuck_5 ?_
  refine gf_X4_breath hx hb hts hown hW (kS_in (by decide)) iX4 (List.mem_of_getElem? (i := 2) rfl) dX7_stuck_8 ?_
  refine lv_iconst (v := (-1 : Int32)) hx hb dX7_stuck_11 (by decide) ?_
  obtain ⟨r1, σ1, hf1, hf⟩ := ss_bd_some hf
  refine rv_i S (c_X4_stuckAt l hAD (by decide) hf1) (cwV 2 hts gX7_stuck_X4_stuckAt rfl rfl rfl hd_X4_stuckAt ⟨(Nat.le_of_ble_eq_true rfl), (Nat.le_of_ble_eq_true rfl)⟩) hW (kS_in (by decide)) rfl rfl rfl hl.1 (Nat.le_of_ble_eq_true rfl) ⟨Nat.zero_le _, Nat.zero_le _⟩ dX7_stuck_12 (fun H locs hW => ?_)
  exact re_i hx hb hr hlocks hW (Option.some.inj hf) dX7_stuck_15
def f_X7_sentences (p0 : Int32) (σ : ss_M) : Option (Int32 × ss_M) :=
  if p0 = (0 : Int32) then (ss_bd (f_X4_howManySentences 0 σ) (fun r2 σ2 => some (r2, σ2))) else if p0 = (1 : Int32) then (ss_bd (f_X4_lastIsEnded 0 σ) (fun r4 σ4 => if r4 = (0 : Int32) then (some ((0 : Int32), σ4)) else (some ((1 : Int32), σ4)))) else if p0 = (2 : Int32) then (ss_bd (f_X4_longestSentence 0 (0 : Int32) σ) (fun r7 σ7 => some (r7, σ7))) else if p0 = (3 : Int32) then (ss_bd (f_X4_longestSentence 0 (1 : Int32) σ) (fun r9 σ9 => some (r9, σ9))) else (ss_bd (f_X7_bad (-2 : Int32) σ) (fun r10 σ10 => some (r10, σ10)))
def rm_X7_sentences : Room := { frames := 6, cells := 0, slots := 0, locals := 300 }
theorem hd_X7_sentences : yX7_sentences.cls = RX7 ∧ yX7_sentences.cls ≠ "java/lang/invoke/MethodHandle" ∧ yX7_sentences.cls ≠ "java/lang/invoke/VarHandle" ∧ (parseMethodDescriptor yX7_sentences.desc).map (fun d => d.parameters.length) = some 1 := by decide +kernel
set_option maxHeartbeats 4000000 in
set_option maxRecDepth 100000 in
theorem c_X7_sentences (l : Launch) {D : va_G} {Y : Nat → ClassId} {A : ss_A} (hAD : AD 0 A) {p0 : Int32}  {r : Int32} {σ σ' : ss_M} (hf : f_X7_sentences p0 σ = some (r, σ')) : Met l yX7_sentences wsX7_sentences rm_X7_sentences (Pc0 0 D Y A σ [.ref (A 0 6 0), .int p0]) (Qi0 0 D Y A r σ') 0 0 (FA 0 A) := by
  rw [f_X7_sentences] at hf
  refine Met0 (cc := cX7_sentences) (maxL := 2) (ret := (some .int)) (own := RX7) (by decide +kernel) rfl hAD rfl (Nat.le_of_ble_eq_true rfl) ?_
  intro p e s m args below meth c S hr hlocks hW ls hl
  obtain ⟨hx, hb, hml, hown, hts⟩ := id S
  have iX7 : ∀ q ∈ wsX70, q ∈ wsX7_sentences := fun q h => List.mem_cons_of_mem _ (List.mem_append_left _ (List.mem_append_left _ (List.mem_append_right _ (h))))
  have hl : lv_has ls 2 [(0, .ref (A 0 6 0)), (1, .int p0)] := hl
  refine lv_iload_n hx hb dX7_sentences_0 rfl (lv_at hl 1 rfl) ?_
  by_cases q1 : p0 = (0 : Int32)
  · rw [if_pos q1] at hf
    refine lv_tableIn (off := 31) (tgt := 32) hx hb dX7_sentences_1 (by rw [q1]; decide) (by rw [q1]; decide) (by rw [q1]; decide) (by decide) ?_
    refine lv_aload_n hx hb dX7_sentences_32 rfl (lv_at hl 0 rfl) ?_
    refine gf_X7_page hx hb hts hown hW (kS_in (by decide)) iX7 (List.mem_of_getElem? (i := 1) rfl) dX7_sentences_33 ?_
    obtain ⟨r2, σ2, hf2, hf⟩ := ss_bd_some hf
    refine rv_i S (c_X4_howManySentences l hAD (by decide) hf2) (cwV 0 hts gX7_sentences_X4_howManySentences rfl rfl rfl hd_X4_howManySentences ⟨(Nat.le_of_ble_eq_true rfl), (Nat.le_of_ble_eq_true rfl)⟩) hW (kS_in (by decide)) rfl rfl rfl hl.1 (Nat.le_of_ble_eq_true rfl) ⟨Nat.zero_le _, Nat.zero_le _⟩ dX7_sentences_36 (fun H locs hW => ?_)
    exact re_i hx hb hr hlocks hW (Option.some.inj hf) dX7_sentences_39
  · rw [if_neg q1] at hf
    by_cases q3 : p0 = (1 : Int32)
    · rw [if_pos q3] at hf
      refine lv_tableIn (off := 39) (tgt := 40) hx hb dX7_sentences_1 (by rw [q3]; decide) (by rw [q3]; decide) (by rw [q3]; decide) (by decide) ?_
      refine lv_aload_n hx hb dX7_sentences_40 rfl (lv_at hl 0 rfl) ?_
      refine gf_X7_page hx hb hts hown hW (kS_in (by decide)) iX7 (List.mem_of_getElem? (i := 1) rfl) dX7_sentences_41 ?_
      obtain ⟨r4, σ4, hf4, hf⟩ := ss_bd_some hf
      refine rv_i S (c_X4_lastIsEnded l hAD (by decide) hf4) (cwV 0 hts gX7_sentences_X4_lastIsEnded rfl rfl rfl hd_X4_lastIsEnded ⟨(Nat.le_of_ble_eq_true rfl), (Nat.le_of_ble_eq_true rfl)⟩) hW (kS_in (by decide)) rfl rfl rfl hl.1 (Nat.le_of_ble_eq_true rfl) ⟨Nat.zero_le _, Nat.zero_le _⟩ dX7_sentences_44 (fun H locs hW => ?_)
      refine lv_if_eq (tgt := 54) hx hb dX7_sentences_47 (by decide) (fun q5 => ?_) (fun q5 => ?_)
      · rw [if_pos q5] at hf
        refine lv_iconst (v := (0 : Int32)) hx hb dX7_sentences_54 (by decide) ?_
        exact re_i hx hb hr hlocks hW (Option.some.inj hf) dX7_sentences_55
      · rw [if_neg q5] at hf
        refine lv_iconst (v := (1 : Int32)) hx hb dX7_sentences_50 (by decide) ?_
        refine lv_goto (tgt := 55) hx hb dX7_sentences_51 (by decide) ?_
        exact re_i hx hb hr hlocks hW (Option.some.inj hf) dX7_sentences_55
    · rw [if_neg q3] at hf
      by_cases q6 : p0 = (2 : Int32)
      · rw [if_pos q6] at hf
        refine lv_tableIn (off := 55) (tgt := 56) hx hb dX7_sentences_1 (by rw [q6]; decide) (by rw [q6]; decide) (by rw [q6]; decide) (by decide) ?_
        refine lv_aload_n hx hb dX7_sentences_56 rfl (lv_at hl 0 rfl) ?_
        refine gf_X7_page hx hb hts hown hW (kS_in (by decide)) iX7 (List.mem_of_getElem? (i := 1) rfl) dX7_sentences_57 ?_
        refine lv_iconst (v := (0 : Int32)) hx hb dX7_sentences_60 (by decide) ?_
        obtain ⟨r7, σ7, hf7, hf⟩ := ss_bd_some hf
        refine rv_i S (c_X4_longestSentence l hAD (by decide) hf7) (cwV 1 hts gX7_sentences_X4_longestSentence rfl rfl rfl hd_X4_longestSentence ⟨(Nat.le_of_ble_eq_true rfl), (Nat.le_of_ble_eq_true rfl)⟩) hW (kS_in (by decide)) rfl rfl rfl hl.1 (Nat.le_of_ble_eq_true rfl) ⟨Nat.zero_le _, Nat.zero_le _⟩ dX7_sentences_61 (fun H locs hW => ?_)
        exact re_i hx hb hr hlocks hW (Option.some.inj hf) dX7_sentences_64
      · rw [if_neg q6] at hf
        by_cases q8 : p0 = (3 : Int32)
        · rw [if_pos q8] at hf
          refine lv_tableIn (off := 64) (tgt := 65) hx hb dX7_sentences_1 (by rw [q8]; decide) (by rw [q8]; decide) (by rw [q8]; decide) (by decide) ?_
          refine lv_aload_n hx hb dX7_sentences_65 rfl (lv_at hl 0 rfl) ?_
          refine gf_X7_page hx hb hts hown hW (kS_in (by decide)) iX7 (List.mem_of_getElem? (i := 1) rfl) dX7_sentences_66 ?_
          refine lv_iconst (v := (1 : Int32)) hx hb dX7_sentences_69 (by decide) ?_
          obtain ⟨r9, σ9, hf9, hf⟩ := ss_bd_some hf
          refine rv_i S (c_X4_longestSentence l hAD (by decide) hf9) (cwV 1 hts gX7_sentences_X4_longestSentence rfl rfl rfl hd_X4_longestSentence ⟨(Nat.le_of_ble_eq_true rfl), (Nat.le_of_ble_eq_true rfl)⟩) hW (kS_in (by decide)) rfl rfl rfl hl.1 (Nat.le_of_ble_eq_true rfl) ⟨Nat.zero_le _, Nat.zero_le _⟩ dX7_sentences_70 (fun H locs hW => ?_)
          exact re_i hx hb hr hlocks hW (Option.some.inj hf) dX7_sentences_73
        · rw [if_neg q8] at hf
          refine lv_tableOut (tgt := 74) hx hb dX7_sentences_1 (by have z := And.intro (lv_neT q1 (a := 0) rfl) (And.intro (lv_neT q3 (a := 1) rfl) (And.intro (lv_neT q6 (a := 2) rfl) (lv_neT q8 (a := 3) rfl))); omega) (by decide) ?_
          refine lv_aload_n hx hb dX7_sentences_74 rfl (lv_at hl 0 rfl) ?_
          refine lv_bipush (v := (-2 : Int32)) hx hb dX7_sentences_75 (by decide) ?_
          obtain ⟨r10, σ10, hf10, hf⟩ := ss_bd_some hf
          refine rv_i S (c_X7_bad l hAD  hf10) (cwV 1 hts gX7_sentences_X7_bad rfl rfl rfl hd_X7_bad ⟨(Nat.le_of_ble_eq_true rfl), (Nat.le_of_ble_eq_true rfl)⟩) hW (kS_in (by decide)) rfl rfl rfl hl.1 (Nat.le_of_ble_eq_true rfl) ⟨Nat.zero_le _, Nat.zero_le _⟩ dX7_sentences_77 (fun H locs hW => ?_)
          exact re_i hx hb hr hlocks hW (Option.some.inj hf) dX7_sentences_80
def f_X7_cheapest_j21 (σ21_ : ss_M) : Option (Int32 × ss_M) :=
  ss_bd (f_X7_bad (-10 : Int32) σ21_) (fun r2 σ2 => some (r2, σ2))
def f_X7_cheapest_j47 (p0 : Int32) (p2 : Int32) (s47_0 : Int32) (σ47_ : ss_M) : Option (Int32 × ss_M) :=
  Option.bind (f_X5_make 0 p0 s47_0 σ47_) (fun σ7 => if (sG σ7 5 0) ≤ p2 then (some ((-5 : Int32), σ7)) else (ss_bd (f_X5_isThere p0 σ7) (fun r9 σ9 => if r9 = (0 : Int32) then (some ((-5 : Int32), σ9)) else (if p2 = (-1 : Int32) then (ss_bd (f_X5_cost p0 σ9) (fun r13 σ13 => some (r13, σ13))) else (ss_bd (f_X5_kindBehind 0 p0 p2 σ9) (fun r12 σ12 => some (r12, σ12)))))))
def f_X7_cheapest (p0 : Int32) (p1 : Int32) (p2 : Int32) (σ : ss_M) : Option (Int32 × ss_M) :=
  ss_bd (f_X7_isBreath p0 σ) (fun r1 σ1 => if r1 = (0 : Int32) then (f_X7_cheapest_j21 σ1) else (ss_bd (f_X7_isWithin p1 (0 : Int32) (1 : Int32) σ1) (fun r4 σ4 => if r4 = (0 : Int32) then (f_X7_cheapest_j21 σ4) else (if (-1 : Int32) ≤ p2 then (if p1 = (1 : Int32) then (f_X7_cheapest_j47 p0 p2 (1 : Int32) σ4) else (f_X7_cheapest_j47 p0 p2 (0 : Int32) σ4)) else (f_X7_cheapest_j21 σ4)))))
def rm_X7_cheapest : Room := { frames := 8, cells := 0, slots := 0, locals := 400 }
theorem hd_X7_cheapest : yX7_cheapest.cls = RX7 ∧ yX7_cheapest.cls ≠ "java/lang/invoke/MethodHandle" ∧ yX7_cheapest.cls ≠ "java/lang/invoke/VarHandle" ∧ (parseMethodDescriptor yX7_cheapest.desc).map (fun d => d.parameters.length) = some 3 := by decide +kernel
set_option maxHeartbeats 4000000 in
set_option maxRecDepth 100000 in
theorem c_X7_cheapest (l : Launch) {D : va_G} {Y : Nat → ClassId} {A : ss_A} (hAD : AD 0 A) {p0 : Int32} {p1 : Int32} {p2 : Int32}  {r : Int32} {σ σ' : ss_M} (hf : f_X7_cheapest p0 p1 p2 σ = some (r, σ')) : Met l yX7_cheapest wsX7_cheapest rm_X7_cheapest (Pc0 0 D Y A σ [.ref (A 0 6 0), .int p0, .int p1, .int p2]) (Qi0 0 D Y A r σ') 0 0 (FA 0 A) := by
  rw [f_X7_cheapest] at hf
  refine Met0 (cc := cX7_cheapest) (maxL := 4) (ret := (some .int)) (own := RX7) (by decide +kernel) rfl hAD rfl (Nat.le_of_ble_eq_true rfl) ?_
  intro p e s m args below meth c S hr hlocks hW ls hl
  obtain ⟨hx, hb, hml, hown, hts⟩ := id S
  have iX7 : ∀ q ∈ wsX70, q ∈ wsX7_cheapest := fun q h => List.mem_cons_of_mem _ (List.mem_append_left _ (List.mem_append_left _ (List.mem_append_left _ (List.mem_append_right _ (h)))))
  have iX4 : ∀ q ∈ wsX40, q ∈ wsX7_cheapest := fun q h => List.mem_cons_of_mem _ (List.mem_append_left _ (List.mem_append_left _ (List.mem_append_right _ (h))))
  have hl : lv_has ls 4 [(0, .ref (A 0 6 0)), (1, .int p0), (2, .int p1), (3, .int p2)] := hl
  refine lv_iload_n hx hb dX7_cheapest_0 rfl (lv_at hl 1 rfl) ?_
  obtain ⟨r1, σ1, hf1, hf⟩ := ss_bd_some hf
  refine rt_i S (c_X7_isBreath l hAD  hf1) (va_cwS 1 hts gX7_cheapest_X7_isBreath rfl rfl rfl hd_X7_isBreath ⟨(Nat.le_of_ble_eq_true rfl), (Nat.le_of_ble_eq_true rfl)⟩) hW rfl rfl hl.1 (Nat.le_of_ble_eq_true rfl) ⟨Nat.zero_le _, Nat.zero_le _⟩ dX7_cheapest_1 (fun H locs hW => ?_)
  have J21 : ∀ (σ21_ : ss_M) (H : Heap) (locs : List Loc) (ls : Array Slot), sW 0 D Y A σ21_ s s.heap H locs → lv_has ls 4 [(0, .ref (A 0 6 0))] → f_X7_cheapest_j21 σ21_ = some (r, σ') → W p l e rm_X7_cheapest s m args below meth c H locs 0 0 (MQ below (Qi0 0 D Y A r σ') args s 0 0 (FA 0 A)) (F0 m 21 ls []) := by
    intro σ21_ H locs ls hW hl hf
    rw [f_X7_cheapest_j21] at hf
    refine lv_aload_n hx hb dX7_cheapest_21 rfl (lv_at hl 0 rfl) ?_
    refine lv_bipush (v := (-10 : Int32)) hx hb dX7_cheapest_22 (by decide) ?_
    obtain ⟨r2, σ2, hf2, hf⟩ := ss_bd_some hf
    refine rv_i S (c_X7_bad l hAD  hf2) (cwV 1 hts gX7_cheapest_X7_bad rfl rfl rfl hd_X7_bad ⟨(Nat.le_of_ble_eq_true rfl), (Nat.le_of_ble_eq_true rfl)⟩) hW (kS_in (by decide)) rfl rfl rfl hl.1 (Nat.le_of_ble_eq_true rfl) ⟨Nat.zero_le _, Nat.zero_le _⟩ dX7_cheapest_24 (fun H locs hW => ?_)
    exact re_i hx hb hr hlocks hW (Option.some.inj hf) dX7_cheapest_27
  refine lv_if_eq (tgt := 21) hx hb dX7_cheapest_4 (by decide) (fun q3 => ?_) (fun q3 => ?_)
  · rw [if_pos q3] at hf
    exact J21 σ1 _ _ _ hW (lv_sub hl [0] rfl) hf
  · rw [if_neg q3] at hf
    refine lv_iload_n hx hb dX7_cheapest_7 rfl (lv_at hl 2 rfl) ?_
    refine lv_iconst (v := (0 : Int32)) hx hb dX7_cheapest_8 (by decide) ?_
    refine lv_iconst (v := (1 : Int32)) hx hb dX7_cheapest_9 (by decide) ?_
    obtain ⟨r4, σ4, hf4, hf⟩ := ss_bd_some hf
    refine rt_i S (c_X7_isWithin l hAD  hf4) (va_cwS 3 hts gX7_cheapest_X7_isWithin rfl rfl rfl hd_X7_isWithin ⟨(Nat.le_of_ble_eq_true rfl), (Nat.le_of_ble_eq_true rfl)⟩) hW rfl rfl hl.1 (Nat.le_of_ble_eq_true rfl) ⟨Nat.zero_le _, Nat.zero_le _⟩ dX7_cheapest_10 (fun H locs hW => ?_)
    refine lv_if_eq (tgt := 21) hx hb dX7_cheapest_13 (by decide) (fun q5 => ?_) (fun q5 => ?_)
    · rw [if_pos q5] at hf
      exact J21 σ4 _ _ _ hW (lv_sub hl [0] rfl) hf
    · rw [if_neg q5] at hf
      refine lv_iload_n hx hb dX7_cheapest_16 rfl (lv_at hl 3 rfl) ?_
      refine lv_iconst (v := (-1 : Int32)) hx hb dX7_cheapest_17 (by decide) ?_
      refine lv_icmp_ge (tgt := 28) hx hb dX7_cheapest_18 (by decide) (fun q6 => ?_) (fun q6 => ?_)
      · rw [if_pos q6] at hf
        refine lv_aload_n hx hb dX7_cheapest_28 rfl (lv_at hl 0 rfl) ?_
        refine gf_X7_plan hx hb hts hown hW (kS_in (by decide)) iX7 (List.mem_of_getElem? (i := 1) rfl) dX7_cheapest_29 ?_
        refine lv_aload_n hx hb dX7_cheapest_32 rfl (lv_at hl 0 rfl) ?_
        refine gf_X7_page hx hb hts hown hW (kS_in (by decide)) iX7 (List.mem_of_getElem? (i := 2) rfl) dX7_cheapest_33 ?_
        refine lv_iload_n hx hb dX7_cheapest_36 rfl (lv_at hl 1 rfl) ?_
        refine lv_iload_n hx hb dX7_cheapest_37 rfl (lv_at hl 2 rfl) ?_
        refine lv_iconst (v := (1 : Int32)) hx hb dX7_cheapest_38 (by decide) ?_
        have J47 : ∀ (s47_0 : Int32) (σ47_ : ss_M) (H : Heap) (locs : List Loc) (ls : Array Slot), sW 0 D Y A σ47_ s s.heap H locs → lv_has ls 4 [(0, .ref (A 0 6 0)), (1, .int p0), (3, .int p2)] → f_X7_cheapest_j47 p0 p2 s47_0 σ47_ = some (r, σ') → W p l e rm_X7_cheapest s m args below meth c H locs 0 0 (MQ below (Qi0 0 D Y A r σ') args s 0 0 (FA 0 A)) (F0 m 47 ls [.int s47_0, .int p0, .ref (A 0 3 0), .ref (A 0 4 0)]) := by
          intro s47_0 σ47_ H locs ls hW hl hf
          rw [f_X7_cheapest_j47] at hf
          obtain ⟨σ7, hf7, hf⟩ := ss_bind hf
          refine rv_v S (c_X5_make l hAD (by decide) hf7) (cwV 3 hts gX7_cheapest_X5_make rfl rfl rfl hd_X5_make ⟨(Nat.le_of_ble_eq_true rfl), (Nat.le_of_ble_eq_true rfl)⟩) hW (kS_in (by decide)) rfl rfl rfl hl.1 (Nat.le_of_ble_eq_true rfl) ⟨Nat.zero_le _, Nat.zero_le _⟩ dX7_cheapest_47 (fun H locs hW => ?_)
          refine lv_iload_n hx hb dX7_cheapest_50 rfl (lv_at hl 2 rfl) ?_
          refine lv_aload_n hx hb dX7_cheapest_51 rfl (lv_at hl 0 rfl) ?_
          refine gf_X7_page hx hb hts hown hW (kS_in (by decide)) iX7 (List.mem_of_getElem? (i := 2) rfl) dX7_cheapest_52 ?_
          refine gf_X4_words hx hb hts hown hW (kS_in (by decide)) iX4 (List.mem_of_getElem? (i := 3) rfl) dX7_cheapest_55 ?_
          refine lv_icmp_ge (tgt := 72) hx hb dX7_cheapest_58 (by decide) (fun q8 => ?_) (fun q8 => ?_)
          · rw [if_pos q8] at hf
            refine lv_bipush (v := (-5 : Int32)) hx hb dX7_cheapest_72 (by decide) ?_
            exact re_i hx hb hr hlocks hW (Option.some.inj hf) dX7_cheapest_74
          · rw [if_neg q8] at hf
            refine lv_aload_n hx hb dX7_cheapest_61 rfl (lv_at hl 0 rfl) ?_
            refine gf_X7_plan hx hb hts hown hW (kS_in (by decide)) iX7 (List.mem_of_getElem? (i := 1) rfl) dX7_cheapest_62 ?_
            refine lv_iload_n hx hb dX7_cheapest_65 rfl (lv_at hl 1 rfl) ?_
            obtain ⟨r9, σ9, hf9, hf⟩ := ss_bd_some hf
            refine rv_i S (c_X5_isThere l hAD  hf9) (cwV 1 hts gX7_cheapest_X5_isThere rfl rfl rfl hd_X5_isThere ⟨(Nat.le_of_ble_eq_true rfl), (Nat.le_of_ble_eq_true rfl)⟩) hW (kS_in (by decide)) rfl rfl rfl hl.1 (Nat.le_of_ble_eq_true rfl) ⟨Nat.zero_le _, Nat.zero_le _⟩ dX7_cheapest_66 (fun H locs hW => ?_)
            refine lv_if_ne (tgt := 75) hx hb dX7_cheapest_69 (by decide) (fun q10 => ?_) (fun q10 => ?_)
            · rw [if_neg q10] at hf
              refine lv_iload_n hx hb dX7_cheapest_75 rfl (lv_at hl 2 rfl) ?_
              refine lv_iconst (v := (-1 : Int32)) hx hb dX7_cheapest_76 (by decide) ?_
              refine lv_icmp_ne (tgt := 91) hx hb dX7_cheapest_77 (by decide) (fun q11 => ?_) (fun q11 => ?_)
              · rw [if_neg q11] at hf
                refine lv_aload_n hx hb dX7_cheapest_91 rfl (lv_at hl 0 rfl) ?_
                refine gf_X7_plan hx hb hts hown hW (kS_in (by decide)) iX7 (List.mem_of_getElem? (i := 1) rfl) dX7_cheapest_92 ?_
                refine lv_aload_n hx hb dX7_cheapest_95 rfl (lv_at hl 0 rfl) ?_
                refine gf_X7_page hx hb hts hown hW (kS_in (by decide)) iX7 (List.mem_of_getElem? (i := 2) rfl) dX7_cheapest_96 ?_
                refine lv_iload_n hx hb dX7_cheapest_99 rfl (lv_at hl 1 rfl) ?_
                refine lv_iload_n hx hb dX7_cheapest_100 rfl (lv_at hl 2 rfl) ?_
                obtain ⟨r12, σ12, hf12, hf⟩ := ss_bd_some hf
                refine rv_i S (c_X5_kindBehind l hAD (by decide) hf12) (cwV 3 hts gX7_cheapest_X5_kindBehind rfl rfl rfl hd_X5_kindBehind ⟨(Nat.le_of_ble_eq_true rfl), (Nat.le_of_ble_eq_true rfl)⟩) hW (kS_in (by decide)) rfl rfl rfl hl.1 (Nat.le_of_ble_eq_true rfl) ⟨Nat.zero_le _, Nat.zero_le _⟩ dX7_cheapest_101 (fun H locs hW => ?_)
                exact re_i hx hb hr hlocks hW (Option.some.inj hf) dX7_cheapest_104
              · rw [if_pos q11] at hf
                refine lv_aload_n hx hb dX7_cheapest_80 rfl (lv_at hl 0 rfl) ?_
                refine gf_X7_plan hx hb hts hown hW (kS_in (by decide)) iX7 (List.mem_of_getElem? (i := 1) rfl) dX7_cheapest_81 ?_
                refine lv_iload_n hx hb dX7_cheapest_84 rfl (lv_at hl 1 rfl) ?_
                obtain ⟨r13, σ13, hf13, hf⟩ := ss_bd_some hf
                refine rv_i S (c_X5_cost l hAD  hf13) (cwV 1 hts gX7_cheapest_X5_cost rfl rfl rfl hd_X5_cost ⟨(Nat.le_of_ble_eq_true rfl), (Nat.le_of_ble_eq_true rfl)⟩) hW (kS_in (by decide)) rfl rfl rfl hl.1 (Nat.le_of_ble_eq_true rfl) ⟨Nat.zero_le _, Nat.zero_le _⟩ dX7_cheapest_85 (fun H locs hW => ?_)
                refine lv_goto (tgt := 104) hx hb dX7_cheapest_88 (by decide) ?_
                exact re_i hx hb hr hlocks hW (Option.some.inj hf) dX7_cheapest_104
            · rw [if_pos q10] at hf
              refine lv_bipush (v := (-5 : Int32)) hx hb dX7_cheapest_72 (by decide) ?_
              exact re_i hx hb hr hlocks hW (Option.some.inj hf) dX7_cheapest_74
        refine lv_icmp_ne (tgt := 46) hx hb dX7_cheapest_39 (by decide) (fun q14 => ?_) (fun q14 => ?_)
        · rw [if_neg q14] at hf
          refine lv_iconst (v := (0 : Int32)) hx hb dX7_cheapest_46 (by decide) ?_
          exact J47 (0 : Int32) σ4 _ _ _ hW (lv_sub hl [0, 1, 3] rfl) hf
        · rw [if_pos q14] at hf
          refine lv_iconst (v := (1 : Int32)) hx hb dX7_cheapest_42 (by decide) ?_
          refine lv_goto (tgt := 47) hx hb dX7_cheapest_43 (by decide) ?_
          exact J47 (1 : Int32) σ4 _ _ _ hW (lv_sub hl [0, 1, 3] rfl) hf
      · rw [if_neg q6] at hf
        exact J21 σ4 _ _ _ hW (lv_sub hl [0] rfl) hf
def f_X7_reach (p0 : Int32) (σ : ss_M) : Option (Int32 × ss_M) :=
  ss_bd (f_X7_isWithin p0 (0 : Int32) (999 : Int32) σ) (fun r1 σ1 => if r1 = (0 : Int32) then (ss_bd (f_X7_bad (-2 : Int32) σ1) (fun r3 σ3 => some (r3, σ3))) else (ss_bd (f_X5_reachFor 0 p0 σ1) (fun r4 σ4 => some (r4, σ4))))
def rm_X7_reach : Room := { frames := 8, cells := 0, slots := 0, locals := 400 }
theorem hd_X7_reach : yX7_reach.cls = RX7 ∧ yX7_reach.cls ≠ "java/lang/invoke/MethodHandle" ∧ yX7_reach.cls ≠ "java/lang/invoke/VarHandle" ∧ (parseMethodDescriptor yX7_reach.desc).map (fun d => d.parameters.length) = some 1 := by decide +kernel
set_option maxHeartbeats 4000000 in
set_option maxRecDepth 100000 in
theorem c_X7_reach (l : Launch) {D : va_G} {Y : Nat → ClassId} {A : ss_A} (hAD : AD 0 A) {p0 : Int32}  {r : Int32} {σ σ' : ss_M} (hf : f_X7_reach p0 σ = some (r, σ')) : Met l yX7_reach wsX7_reach rm_X7_reach (Pc0 0 D Y A σ [.ref (A 0 6 0), .int p0]) (Qi0 0 D Y A r σ') 0 0 (FA 0 A) := by
  rw [f_X7_reach] at hf
  refine Met0 (cc := cX7_reach) (maxL := 2) (ret := (some .int)) (own := RX7) (by decide +kernel) rfl hAD rfl (Nat.le_of_ble_eq_true rfl) ?_
  intro p e s m args below meth c S hr hlocks hW ls hl
  obtain ⟨hx, hb, hml, hown, hts⟩ := id S
  have iX7 : ∀ q ∈ wsX70, q ∈ wsX7_reach := fun q h => List.mem_cons_of_mem _ (List.mem_append_left _ (List.mem_append_left _ (List.mem_append_left _ (List.mem_append_right _ (h)))))
  have hl : lv_has ls 2 [(0, .ref (A 0 6 0)), (1, .int p0)] := hl
  refine lv_iload_n hx hb dX7_reach_0 rfl (lv_at hl 1 rfl) ?_
  refine lv_iconst (v := (0 : Int32)) hx hb dX7_reach_1 (by decide) ?_
  refine lv_sipush (v := (999 : Int32)) hx hb dX7_reach_2 (by decide) ?_
  obtain ⟨r1, σ1, hf1, hf⟩ := ss_bd_some hf
  refine rt_i S (c_X7_isWithin l hAD  hf1) (va_cwS 3 hts gX7_reach_X7_isWithin rfl rfl rfl hd_X7_isWithin ⟨(Nat.le_of_ble_eq_true rfl), (Nat.le_of_ble_eq_true rfl)⟩) hW rfl rfl hl.1 (Nat.le_of_ble_eq_true rfl) ⟨Nat.zero_le _, Nat.zero_le _⟩ dX7_reach_5 (fun H locs hW => ?_)
  refine lv_if_eq (tgt := 26) hx hb dX7_reach_8 (by decide) (fun q2 => ?_) (fun q2 => ?_)
  · rw [if_pos q2] at hf
    refine lv_aload_n hx hb dX7_reach_26 rfl (lv_at hl 0 rfl) ?_
    refine lv_bipush (v := (-2 : Int32)) hx hb dX7_reach_27 (by decide) ?_
    obtain ⟨r3, σ3, hf3, hf⟩ := ss_bd_some hf
    refine rv_i S (c_X7_bad l hAD  hf3) (cwV 1 hts gX7_reach_X7_bad rfl rfl rfl hd_X7_bad ⟨(Nat.le_of_ble_eq_true rfl), (Nat.le_of_ble_eq_true rfl)⟩) hW (kS_in (by decide)) rfl rfl rfl hl.1 (Nat.le_of_ble_eq_true rfl) ⟨Nat.zero_le _, Nat.zero_le _⟩ dX7_reach_29 (fun H locs hW => ?_)
    exact re_i hx hb hr hlocks hW (Option.some.inj hf) dX7_reach_32
  · rw [if_neg q2] at hf
    refine lv_aload_n hx hb dX7_reach_11 rfl (lv_at hl 0 rfl) ?_
    refine gf_X7_plan hx hb hts hown hW (kS_in (by decide)) iX7 (List.mem_of_getElem? (i := 1) rfl) dX7_reach_12 ?_
    refine lv_aload_n hx hb dX7_reach_15 rfl (lv_at hl 0 rfl) ?_
    refine gf_X7_page hx hb hts hown hW (kS_in (by decide)) iX7 (List.mem_of_getElem? (i := 2) rfl) dX7_reach_16 ?_
    refine lv_iload_n hx hb dX7_reach_19 rfl (lv_at hl 1 rfl) ?_
    obtain ⟨r4, σ4, hf4, hf⟩ := ss_bd_some hf
    refine rv_i S (c_X5_reachFor l hAD (by decide) hf4) (cwV 2 hts gX7_reach_X5_reachFor rfl rfl rfl hd_X5_reachFor ⟨(Nat.le_of_ble_eq_true rfl), (Nat.le_of_ble_eq_true rfl)⟩) hW (kS_in (by decide)) rfl rfl rfl hl.1 (Nat.le_of_ble_eq_true rfl) ⟨Nat.zero_le _, Nat.zero_le _⟩ dX7_reach_20 (fun H locs hW => ?_)
    refine lv_goto (tgt := 32) hx hb dX7_reach_23 (by decide) ?_
    exact re_i hx hb hr hlocks hW (Option.some.inj hf) dX7_reach_32
def f_X7_order (p0 : Int32) (σ : ss_M) : Option (Int32 × ss_M) :=
  if (-1 : Int32) ≤ p0 then (if (sG σ 5 0) ≤ (7 : Int32) then (if p0 < (sG σ 5 0) then (Option.bind (f_X3_search 0 σ) (fun σ4 => if p0 = (-1 : Int32) then (some ((sG σ4 2 0), σ4)) else (if gd p0 7 = true then (some ((sA σ4 2 0 (p0).toNatClampNeg), σ4)) else none))) else (some ((-5 : Int32), σ))) else (ss_bd (f_X7_no (-20 : Int32) σ) (fun r7 σ7 => some (r7, σ7)))) else (ss_bd (f_X7_bad (-10 : Int32) σ) (fun r8 σ8 => some (r8, σ8)))
def rm_X7_order : Room := { frames := 50, cells := 0, slots := 0, locals := 1500 }
theorem hd_X7_order : yX7_order.cls = RX7 ∧ yX7_order.cls ≠ "java/lang/invoke/MethodHandle" ∧ yX7_order.cls ≠ "java/lang/invoke/VarHandle" ∧ (parseMethodDescriptor yX7_order.desc).map (fun d => d.parameters.length) = some 1 := by decide +kernel
set_option maxHeartbeats 4000000 in
set_option maxRecDepth 100000 in
theorem c_X7_order (l : Launch) {D : va_G} {Y : Nat → ClassId} {A : ss_A} (hAD : AD 0 A) {p0 : Int32}  {r : Int32} {σ σ' : ss_M} (hf : f_X7_order p0 σ = some (r, σ')) : Met l yX7_order wsX7_order rm_X7_order (Pc0 0 D Y A σ [.ref (A 0 6 0), .int p0]) (Qi0 0 D Y A r σ') 0 0 (FA 0 A) := by
  rw [f_X7_order] at hf
  refine Met0 (cc := cX7_order) (maxL := 2) (ret := (some .int)) (own := RX7) (by decide +kernel) rfl hAD rfl (Nat.le_of_ble_eq_true rfl) ?_
  intro p e s m args below meth c S hr hlocks hW ls hl
  obtain ⟨hx, hb, hml, hown, hts⟩ := id S
  have iX7 : ∀ q ∈ wsX70, q ∈ wsX7_order := fun q h => List.mem_cons_of_mem _ (List.mem_append_left _ (List.mem_append_left _ (List.mem_append_left _ (List.mem_append_right _ (h)))))
  have iX4 : ∀ q ∈ wsX40, q ∈ wsX7_order := fun q h => List.mem_cons_of_mem _ (List.mem_append_left _ (List.mem_append_left _ (List.mem_append_right _ (h))))
  have iX3 : ∀ q ∈ wsX30, q ∈ wsX7_order := fun q h => List.mem_cons_of_mem _ (List.mem_append_left _ (List.mem_append_right _ (h)))
  have hl : lv_has ls 2 [(0, .ref (A 0 6 0)), (1, .int p0)] := hl
  refine lv_iload_n hx hb dX7_order_0 rfl (lv_at hl 1 rfl) ?_
  refine lv_iconst (v := (-1 : Int32)) hx hb dX7_order_1 (by decide) ?_
  refine lv_icmp_ge (tgt := 12) hx hb dX7_order_2 (by decide) (fun q1 => ?_) (fun q1 => ?_)
  · rw [if_pos q1] at hf
    refine lv_aload_n hx hb dX7_order_12 rfl (lv_at hl 0 rfl) ?_
    refine gf_X7_page hx hb hts hown hW (kS_in (by decide)) iX7 (List.mem_of_getElem? (i := 1) rfl) dX7_order_13 ?_
    refine gf_X4_words hx hb hts hown hW (kS_in (by decide)) iX4 (List.mem_of_getElem? (i := 2) rfl) dX7_order_16 ?_
    refine lv_bipush (v := (7 : Int32)) hx hb dX7_order_19 (by decide) ?_
    refine lv_icmp_le (tgt := 31) hx hb dX7_order_21 (by decide) (fun q2 => ?_) (fun q2 => ?_)
    · rw [if_pos q2] at hf
      refine lv_iload_n hx hb dX7_order_31 rfl (lv_at hl 1 rfl) ?_
      refine lv_aload_n hx hb dX7_order_32 rfl (lv_at hl 0 rfl) ?_
      refine gf_X7_page hx hb hts hown hW (kS_in (by decide)) iX7 (List.mem_of_getElem? (i := 1) rfl) dX7_order_33 ?_
      refine gf_X4_words hx hb hts hown hW (kS_in (by decide)) iX4 (List.mem_of_getElem? (i := 2) rfl) dX7_order_36 ?_
      refine lv_icmp_lt (tgt := 45) hx hb dX7_order_39 (by decide) (fun q3 => ?_) (fun q3 => ?_)
      · rw [if_pos q3] at hf
        refine lv_aload_n hx hb dX7_order_45 rfl (lv_at hl 0 rfl) ?_
        refine gf_X7_order hx hb hts hown hW (kS_in (by decide)) iX7 (List.mem_of_getElem? (i := 3) rfl) dX7_order_46 ?_
        refine lv_aload_n hx hb dX7_order_49 rfl (lv_at hl 0 rfl) ?_
        refine gf_X7_page hx hb hts hown hW (kS_in (by decide)) iX7 (List.mem_of_getElem? (i := 1) rfl) dX7_order_50 ?_
        obtain ⟨σ4, hf4, hf⟩ := ss_bind hf
        refine rv_v S (c_X3_search l hAD (by decide) hf4) (cwV 1 hts gX7_order_X3_search rfl rfl rfl hd_X3_search ⟨(Nat.le_of_ble_eq_true rfl), (Nat.le_of_ble_eq_true rfl)⟩) hW (kS_in (by decide)) rfl rfl rfl hl.1 (Nat.le_of_ble_eq_true rfl) ⟨Nat.zero_le _, Nat.zero_le _⟩ dX7_order_53 (fun H locs hW => ?_)
        refine lv_iload_n hx hb dX7_order_56 rfl (lv_at hl 1 rfl) ?_
        refine lv_iconst (v := (-1 : Int32)) hx hb dX7_order_57 (by decide) ?_
        refine lv_icmp_ne (tgt := 71) hx hb dX7_order_58 (by decide) (fun q5 => ?_) (fun q5 => ?_)
        · rw [if_neg q5] at hf
          refine lv_aload_n hx hb dX7_order_71 rfl (lv_at hl 0 rfl) ?_
          refine gf_X7_order hx hb hts hown hW (kS_in (by decide)) iX7 (List.mem_of_getElem? (i := 3) rfl) dX7_order_72 ?_
          refine gf_X3_best hx hb hts hown hW (kS_in (by decide)) iX3 (List.mem_of_getElem? (i := 5) rfl) dX7_order_75 ?_
          refine lv_iload_n hx hb dX7_order_78 rfl (lv_at hl 1 rfl) ?_
          obtain ⟨g6, hf⟩ := ss_if hf
          refine ra_i hx hb hW (kS_in (by decide)) g6 dX7_order_79 ?_
          exact re_i hx hb hr hlocks hW (Option.some.inj hf) dX7_order_80
        · rw [if_pos q5] at hf
          refine lv_aload_n hx hb dX7_order_61 rfl (lv_at hl 0 rfl) ?_
          refine gf_X7_order hx hb hts hown hW (kS_in (by decide)) iX7 (List.mem_of_getElem? (i := 3) rfl) dX7_order_62 ?_
          refine gf_X3_most hx hb hts hown hW (kS_in (by decide)) iX3 (List.mem_of_getElem? (i := 4) rfl) dX7_order_65 ?_
          refine lv_goto (tgt := 80) hx hb dX7_order_68 (by decide) ?_
          exact re_i hx hb hr hlocks hW (Option.some.inj hf) dX7_order_80
      · rw [if_neg q3] at hf
        refine lv_bipush (v := (-5 : Int32)) hx hb dX7_order_42 (by decide) ?_
        exact re_i hx hb hr hlocks hW (Option.some.inj hf) dX7_order_44
    · rw [if_neg q2] at hf
      refine lv_aload_n hx hb dX7_order_24 rfl (lv_at hl 0 rfl) ?_
      refine lv_bipush (v := (-20 : Int32)) hx hb dX7_order_25 (by decide) ?_
      obtain ⟨r7, σ7, hf7, hf⟩ := ss_bd_some hf
      refine rv_i S (c_X7_no l hAD  hf7) (cwV 1 hts gX7_order_X7_no rfl rfl rfl hd_X7_no ⟨(Nat.le_of_ble_eq_true rfl), (Nat.le_of_ble_eq_true rfl)⟩) hW (kS_in (by decide)) rfl rfl rfl hl.1 (Nat.le_of_ble_eq_true rfl) ⟨Nat.zero_le _, Nat.zero_le _⟩ dX7_order_27 (fun H locs hW => ?_)
      exact re_i hx hb hr hlocks hW (Option.some.inj hf) dX7_order_30
  · rw [if_neg q1] at hf
    refine lv_aload_n hx hb dX7_order_5 rfl (lv_at hl 0 rfl) ?_
    refine lv_bipush (v := (-10 : Int32)) hx hb dX7_order_6 (by decide) ?_
    obtain ⟨r8, σ8, hf8, hf⟩ := ss_bd_some hf
    refine rv_i S (c_X7_bad l hAD  hf8) (cwV 1 hts gX7_order_X7_bad rfl rfl rfl hd_X7_bad ⟨(Nat.le_of_ble_eq_true rfl), (Nat.le_of_ble_eq_true rfl)⟩) hW (kS_in (by decide)) rfl rfl rfl hl.1 (Nat.le_of_ble_eq_true rfl) ⟨Nat.zero_le _, Nat.zero_le _⟩ dX7_order_8 (fun H locs hW => ?_)
    exact re_i hx hb hr hlocks hW (Option.some.inj hf) dX7_order_11
def f_X7_heard_j23 (p0 : Int32) (σ23_ : ss_M) : Option (Int32 × ss_M) :=
  if (sG σ23_ 6 0) < (6 : Int32) then (ss_bd (f_X4_breathsStuckAt 0 p0 σ23_) (fun r2 σ2 => Option.bind (f_X4_addHeard 0 r2 σ2) (fun σ3 => some ((sG σ3 6 0), σ3)))) else (ss_bd (f_X7_full (-4 : Int32) σ23_) (fun r4 σ4 => some (r4, σ4)))
def f_X7_heard (p0 : Int32) (σ : ss_M) : Option (Int32 × ss_M) :=
  if p0 = (-1 : Int32) then (f_X7_heard_j23 p0 σ) else (ss_bd (f_X4_has 0 p0 σ) (fun r6 σ6 => if r6 = (0 : Int32) then (ss_bd (f_X7_bad (-2 : Int32) σ6) (fun r8 σ8 => some (r8, σ8))) else (f_X7_heard_j23 p0 σ6)))
def rm_X7_heard : Room := { frames := 10, cells := 0, slots := 0, locals := 500 }
theorem hd_X7_heard : yX7_heard.cls = RX7 ∧ yX7_heard.cls ≠ "java/lang/invoke/MethodHandle" ∧ yX7_heard.cls ≠ "java/lang/invoke/VarHandle" ∧ (parseMethodDescriptor yX7_heard.desc).map (fun d => d.parameters.length) = some 1 := by decide +kernel
set_option maxHeartbeats 4000000 in
set_option maxRecDepth 100000 in
theorem c_X7_heard (l : Launch) {D : va_G} {Y : Nat → ClassId} {A : ss_A} (hAD : AD 0 A) {p0 : Int32}  {r : Int32} {σ σ' : ss_M} (hf : f_X7_heard p0 σ = some (r, σ')) : Met l yX7_heard wsX7_heard rm_X7_heard (Pc0 0 D Y A σ [.ref (A 0 6 0), .int p0]) (Qi0 0 D Y A r σ') 0 0 (FA 0 A) := by
  rw [f_X7_heard] at hf
  refine Met0 (cc := cX7_heard) (maxL := 2) (ret := (some .int)) (own := RX7) (by decide +kernel) rfl hAD rfl (Nat.le_of_ble_eq_true rfl) ?_
  intro p e s m args below meth c S hr hlocks hW ls hl
  obtain ⟨hx, hb, hml, hown, hts⟩ := id S
  have iX7 : ∀ q ∈ wsX70, q ∈ wsX7_heard := fun q h => List.mem_cons_of_mem _ (List.mem_append_left _ (List.mem_append_left _ (List.mem_append_right _ (h))))
  have iX4 : ∀ q ∈ wsX40, q ∈ wsX7_heard := fun q h => List.mem_cons_of_mem _ (List.mem_append_left _ (List.mem_append_right _ (h)))
  have hl : lv_has ls 2 [(0, .ref (A 0 6 0)), (1, .int p0)] := hl
  refine lv_iload_n hx hb dX7_heard_0 rfl (lv_at hl 1 rfl) ?_
  refine lv_iconst (v := (-1 : Int32)) hx hb dX7_heard_1 (by decide) ?_
  have J23 : ∀ (σ23_ : ss_M) (H : Heap) (locs : List Loc) (ls : Array Slot), sW 0 D Y A σ23_ s s.heap H locs → lv_has ls 2 [(0, .ref (A 0 6 0)), (1, .int p0)] → f_X7_heard_j23 p0 σ23_ = some (r, σ') → W p l e rm_X7_heard s m args below meth c H locs 0 0 (MQ below (Qi0 0 D Y A r σ') args s 0 0 (FA 0 A)) (F0 m 23 ls []) := by
    intro σ23_ H locs ls hW hl hf
    rw [f_X7_heard_j23] at hf
    refine lv_aload_n hx hb dX7_heard_23 rfl (lv_at hl 0 rfl) ?_
    refine gf_X7_page hx hb hts hown hW (kS_in (by decide)) iX7 (List.mem_of_getElem? (i := 1) rfl) dX7_heard_24 ?_
    refine gf_X4_heards hx hb hts hown hW (kS_in (by decide)) iX4 (List.mem_of_getElem? (i := 2) rfl) dX7_heard_27 ?_
    refine lv_bipush (v := (6 : Int32)) hx hb dX7_heard_30 (by decide) ?_
    refine lv_icmp_lt (tgt := 42) hx hb dX7_heard_32 (by decide) (fun q1 => ?_) (fun q1 => ?_)
    · rw [if_pos q1] at hf
      refine lv_aload_n hx hb dX7_heard_42 rfl (lv_at hl 0 rfl) ?_
      refine gf_X7_page hx hb hts hown hW (kS_in (by decide)) iX7 (List.mem_of_getElem? (i := 1) rfl) dX7_heard_43 ?_
      refine lv_aload_n hx hb dX7_heard_46 rfl (lv_at hl 0 rfl) ?_
      refine gf_X7_page hx hb hts hown hW (kS_in (by decide)) iX7 (List.mem_of_getElem? (i := 1) rfl) dX7_heard_47 ?_
      refine lv_iload_n hx hb dX7_heard_50 rfl (lv_at hl 1 rfl) ?_
      obtain ⟨r2, σ2, hf2, hf⟩ := ss_bd_some hf
      refine rv_i S (c_X4_breathsStuckAt l hAD (by decide) hf2) (cwV 1 hts gX7_heard_X4_breathsStuckAt rfl rfl rfl hd_X4_breathsStuckAt ⟨(Nat.le_of_ble_eq_true rfl), (Nat.le_of_ble_eq_true rfl)⟩) hW (kS_in (by decide)) rfl rfl rfl hl.1 (Nat.le_of_ble_eq_true rfl) ⟨Nat.zero_le _, Nat.zero_le _⟩ dX7_heard_51 (fun H locs hW => ?_)
      obtain ⟨σ3, hf3, hf⟩ := ss_bind hf
      refine rv_v S (c_X4_addHeard l hAD (by decide) hf3) (cwV 1 hts gX7_heard_X4_addHeard rfl rfl rfl hd_X4_addHeard ⟨(Nat.le_of_ble_eq_true rfl), (Nat.le_of_ble_eq_true rfl)⟩) hW (kS_in (by decide)) rfl rfl rfl hl.1 (Nat.le_of_ble_eq_true rfl) ⟨Nat.zero_le _, Nat.zero_le _⟩ dX7_heard_54 (fun H locs hW => ?_)
      refine lv_aload_n hx hb dX7_heard_57 rfl (lv_at hl 0 rfl) ?_
      refine gf_X7_page hx hb hts hown hW (kS_in (by decide)) iX7 (List.mem_of_getElem? (i := 1) rfl) dX7_heard_58 ?_
      refine gf_X4_heards hx hb hts hown hW (kS_in (by decide)) iX4 (List.mem_of_getElem? (i := 2) rfl) dX7_heard_61 ?_
      exact re_i hx hb hr hlocks hW (Option.some.inj hf) dX7_heard_64
    · rw [if_neg q1] at hf
      refine lv_aload_n hx hb dX7_heard_35 rfl (lv_at hl 0 rfl) ?_
      refine lv_bipush (v := (-4 : Int32)) hx hb dX7_heard_36 (by decide) ?_
      obtain ⟨r4, σ4, hf4, hf⟩ := ss_bd_some hf
      refine rv_i S (c_X7_full l hAD  hf4) (cwV 1 hts gX7_heard_X7_full rfl rfl rfl hd_X7_full ⟨(Nat.le_of_ble_eq_true rfl), (Nat.le_of_ble_eq_true rfl)⟩) hW (kS_in (by decide)) rfl rfl rfl hl.1 (Nat.le_of_ble_eq_true rfl) ⟨Nat.zero_le _, Nat.zero_le _⟩ dX7_heard_38 (fun H locs hW => ?_)
      exact re_i hx hb hr hlocks hW (Option.some.inj hf) dX7_heard_41
  refine lv_icmp_eq (tgt := 23) hx hb dX7_heard_2 (by decide) (fun q5 => ?_) (fun q5 => ?_)
  · rw [if_pos q5] at hf
    exact J23 σ _ _ _ hW (lv_sub hl [0, 1] rfl) hf
  · rw [if_neg q5] at hf
    refine lv_aload_n hx hb dX7_heard_5 rfl (lv_at hl 0 rfl) ?_
    refine gf_X7_page hx hb hts hown hW (kS_in (by decide)) iX7 (List.mem_of_getElem? (i := 1) rfl) dX7_heard_6 ?_
    refine lv_iload_n hx hb dX7_heard_9 rfl (lv_at hl 1 rfl) ?_
    obtain ⟨r6, σ6, hf6, hf⟩ := ss_bd_some hf
    refine rv_i S (c_X4_has l hAD (by decide) hf6) (cwV 1 hts gX7_heard_X4_has rfl rfl rfl hd_X4_has ⟨(Nat.le_of_ble_eq_true rfl), (Nat.le_of_ble_eq_true rfl)⟩) hW (kS_in (by decide)) rfl rfl rfl hl.1 (Nat.le_of_ble_eq_true rfl) ⟨Nat.zero_le _, Nat.zero_le _⟩ dX7_heard_10 (fun H locs hW => ?_)
    refine lv_if_ne (tgt := 23) hx hb dX7_heard_13 (by decide) (fun q7 => ?_) (fun q7 => ?_)
    · rw [if_neg q7] at hf
      exact J23 σ6 _ _ _ hW (lv_sub hl [0, 1] rfl) hf
    · rw [if_pos q7] at hf
      refine lv_aload_n hx hb dX7_heard_16 rfl (lv_at hl 0 rfl) ?_
      refine lv_bipush (v := (-2 : Int32)) hx hb dX7_heard_17 (by decide) ?_
      obtain ⟨r8, σ8, hf8, hf⟩ := ss_bd_some hf
      refine rv_i S (c_X7_bad l hAD  hf8) (cwV 1 hts gX7_heard_X7_bad rfl rfl rfl hd_X7_bad ⟨(Nat.le_of_ble_eq_true rfl), (Nat.le_of_ble_eq_true rfl)⟩) hW (kS_in (by decide)) rfl rfl rfl hl.1 (Nat.le_of_ble_eq_true rfl) ⟨Nat.zero_le _, Nat.zero_le _⟩ dX7_heard_19 (fun H locs hW => ?_)
      exact re_i hx hb hr hlocks hW (Option.some.inj hf) dX7_heard_22
def f_X7_forget (σ : ss_M) : Option (Int32 × ss_M) :=
  some ((sG σ 6 0), (sGu σ 6 0 (0 : Int32)))
def rm_X7_forget : Room := { frames := 0, cells := 0, slots := 0, locals := 0 }
theorem hd_X7_forget : yX7_forget.cls = RX7 ∧ yX7_forget.cls ≠ "java/lang/invoke/MethodHandle" ∧ yX7_forget.cls ≠ "java/lang/invoke/VarHandle" ∧ (parseMethodDescriptor yX7_forget.desc).map (fun d => d.parameters.length) = some 0 := by decide +kernel
set_option maxHeartbeats 4000000 in
set_option maxRecDepth 100000 in
theorem c_X7_forget (l : Launch) {D : va_G} {Y : Nat → ClassId} {A : ss_A} (hAD : AD 0 A)   {r : Int32} {σ σ' : ss_M} (hf : f_X7_forget σ = some (r, σ')) : Met l yX7_forget wsX7_forget rm_X7_forget (Pc0 0 D Y A σ [.ref (A 0 6 0)]) (Qi0 0 D Y A r σ') 0 0 (FA 0 A) := by
  rw [f_X7_forget] at hf
  refine Met0 (cc := cX7_forget) (maxL := 2) (ret := (some .int)) (own := RX7) (by decide +kernel) rfl hAD rfl (Nat.le_of_ble_eq_true rfl) ?_
  intro p e s m args below meth c S hr hlocks hW ls hl
  obtain ⟨hx, hb, hml, hown, hts⟩ := id S
  have iX7 : ∀ q ∈ wsX70, q ∈ wsX7_forget := fun q h => List.mem_cons_of_mem _ (List.mem_append_left _ (List.mem_append_right _ (h)))
  have iX4 : ∀ q ∈ wsX40, q ∈ wsX7_forget := fun q h => List.mem_cons_of_mem _ (List.mem_append_right _ (h))
  have hl : lv_has ls 2 [(0, .ref (A 0 6 0))] := hl
  refine lv_aload_n hx hb dX7_forget_0 rfl (lv_at hl 0 rfl) ?_
  refine gf_X7_page hx hb hts hown hW (kS_in (by decide)) iX7 (List.mem_of_getElem? (i := 1) rfl) dX7_forget_1 ?_
  refine gf_X4_heards hx hb hts hown hW (kS_in (by decide)) iX4 (List.mem_of_getElem? (i := 2) rfl) dX7_forget_4 ?_
  refine lv_istore_n (lv' := [(1, .int (sG σ 6 0)), (0, .ref (A 0 6 0))]) hx hb dX7_forget_7 rfl hl (by decide) rfl (fun ls hl => ?_)
  refine lv_aload_n hx hb dX7_forget_8 rfl (lv_at hl 1 rfl) ?_
  refine gf_X7_page hx hb hts hown hW (kS_in (by decide)) iX7 (List.mem_of_getElem? (i := 1) rfl) dX7_forget_9 ?_
  refine lv_iconst (v := (0 : Int32)) hx hb dX7_forget_12 (by decide) ?_
  refine pf_X4_heards hx hb hts hown hW (kS_in (by decide)) iX4 (List.mem_of_getElem? (i := 2) rfl) dX7_forget_13 (fun H locs hW => ?_)
  refine lv_iload_n hx hb dX7_forget_16 rfl (lv_at hl 0 rfl) ?_
  exact re_i hx hb hr hlocks hW (Option.some.inj hf) dX7_forget_17
def f_X7_breaths (σ : ss_M) : Option (Int32 × ss_M) :=
  ss_bd (f_X4_breathsHeard 0 σ) (fun r1 σ1 => some (r1, σ1))
def rm_X7_breaths : Room := { frames := 2, cells := 0, slots := 0, locals := 100 }
theorem hd_X7_breaths : yX7_breaths.cls = RX7 ∧ yX7_breaths.cls ≠ "java/lang/invoke/MethodHandle" ∧ yX7_breaths.cls ≠ "java/lang/invoke/VarHandle" ∧ (parseMethodDescriptor yX7_breaths.desc).map (fun d => d.parameters.length) = some 0 := by decide +kernel
set_option maxHeartbeats 4000000 in
set_option maxRecDepth 100000 in
theorem c_X7_breaths (l : Launch) {D : va_G} {Y : Nat → ClassId} {A : ss_A} (hAD : AD 0 A)   {r : Int32} {σ σ' : ss_M} (hf : f_X7_breaths σ = some (r, σ')) : Met l yX7_breaths wsX7_breaths rm_X7_breaths (Pc0 0 D Y A σ [.ref (A 0 6 0)]) (Qi0 0 D Y A r σ') 0 0 (FA 0 A) := by
  rw [f_X7_breaths] at hf
  refine Met0 (cc := cX7_breaths) (maxL := 1) (ret := (some .int)) (own := RX7) (by decide +kernel) rfl hAD rfl (Nat.le_of_ble_eq_true rfl) ?_
  intro p e s m args below meth c S hr hlocks hW ls hl
  obtain ⟨hx, hb, hml, hown, hts⟩ := id S
  have iX7 : ∀ q ∈ wsX70, q ∈ wsX7_breaths := fun q h => List.mem_cons_of_mem _ (List.mem_append_left _ (List.mem_append_right _ (h)))
  have hl : lv_has ls 1 [(0, .ref (A 0 6 0))] := hl
  refine lv_aload_n hx hb dX7_breaths_0 rfl (lv_at hl 0 rfl) ?_
  refine gf_X7_page hx hb hts hown hW (kS_in (by decide)) iX7 (List.mem_of_getElem? (i := 1) rfl) dX7_breaths_1 ?_
  obtain ⟨r1, σ1, hf1, hf⟩ := ss_bd_some hf
  refine rv_i S (c_X4_breathsHeard l hAD (by decide) hf1) (cwV 0 hts gX7_breaths_X4_breathsHeard rfl rfl rfl hd_X4_breathsHeard ⟨(Nat.le_of_ble_eq_true rfl), (Nat.le_of_ble_eq_true rfl)⟩) hW (kS_in (by decide)) rfl rfl rfl hl.1 (Nat.le_of_ble_eq_true rfl) ⟨Nat.zero_le _, Nat.zero_le _⟩ dX7_breaths_4 (fun H locs hW => ?_)
  exact re_i hx hb hr hlocks hW (Option.some.inj hf) dX7_breaths_7
def f_X7_mostAlike_j80 (x13_4 : Int32) (kb13 : Int32 → Int32 → ss_M → Option (Int32 × ss_M)) (x80_3 : Int32) (σ80_ : ss_M) : Option (Int32 × ss_M) :=
  kb13 x80_3 (x13_4 + (1 : Int32)) σ80_
def f_X7_mostAlike_j55 (x13_3 : Int32) (x13_4 : Int32) (kb13 : Int32 → Int32 → ss_M → Option (Int32 × ss_M)) (s55_0 : Int32) (σ55_ : ss_M) : Option (Int32 × ss_M) :=
  if gd s55_0 13 = true then (if gd s55_0 13 = true then (if gd s55_0 13 = true then (f_X7_mostAlike_j80 x13_4 kb13 (if x13_3 < (sA (sAu σ55_ 15 0 (upd (sA σ55_ 15 0) (s55_0).toNatClampNeg ((sA σ55_ 15 0 (s55_0).toNatClampNeg) + (1 : Int32)))) 15 0 (s55_0).toNatClampNeg) then (sA (sAu σ55_ 15 0 (upd (sA σ55_ 15 0) (s55_0).toNatClampNeg ((sA σ55_ 15 0 (s55_0).toNatClampNeg) + (1 : Int32)))) 15 0 (s55_0).toNatClampNeg) else x13_3) (sAu σ55_ 15 0 (upd (sA σ55_ 15 0) (s55_0).toNatClampNeg ((sA σ55_ 15 0 (s55_0).toNatClampNeg) + (1 : Int32))))) else none) else none) else none
def f_X7_mostAlike_L13 (p0 : Int32) (p1 : Int32) : Nat → Int32 → Int32 → ss_M → Option (Int32 × ss_M)
  | 0, _, _, _ => none
  | n13 + 1, x13_3, x13_4, σ13_ => if (30 : Int32) < x13_4 then (some (x13_3, σ13_)) else (if ((p0 >>> (x13_4 &&& (31 : Int32))) &&& (1 : Int32)) = (1 : Int32) then (ss_bd (f_X4_stuckAt 0 x13_4 p1 σ13_) (fun r4 σ4 => if r4 = (-1 : Int32) then (f_X7_mostAlike_j55 x13_3 x13_4 (f_X7_mostAlike_L13 p0 p1 n13) (12 : Int32) σ4) else (f_X7_mostAlike_j55 x13_3 x13_4 (f_X7_mostAlike_L13 p0 p1 n13) r4 σ4))) else (f_X7_mostAlike_j80 x13_4 (f_X7_mostAlike_L13 p0 p1 n13) x13_3 σ13_))
def f_X7_mostAlike (p0 : Int32) (p1 : Int32) (σ : ss_M) : Option (Int32 × ss_M) :=
  Option.bind (f_J7_fill_53178 15 0 (0 : Int32) σ) (fun σ1 => f_X7_mostAlike_L13 p0 p1 FU (0 : Int32) (1 : Int32) σ1)
def rm_X7_mostAlike : Room := { frames := 8, cells := 0, slots := 0, locals := 400 }
theorem hd_X7_mostAlike : yX7_mostAlike.cls = RX7 ∧ yX7_mostAlike.cls ≠ "java/lang/invoke/MethodHandle" ∧ yX7_mostAlike.cls ≠ "java/lang/invoke/VarHandle" ∧ (parseMethodDescriptor yX7_mostAlike.desc).map (fun d => d.parameters.length) = some 2 := by decide +kernel
set_option maxHeartbeats 4000000 in
set_option maxRecDepth 100000 in
theorem c_X7_mostAlike (l : Launch) {D : va_G} {Y : Nat → ClassId} {A : ss_A} (hAD : AD 0 A) {p0 : Int32} {p1 : Int32}  {r : Int32} {σ σ' : ss_M} (hf : f_X7_mostAlike p0 p1 σ = some (r, σ')) : Met l yX7_mostAlike wsX7_mostAlike rm_X7_mostAlike (Pc0 0 D Y A σ [.ref (A 0 6 0), .int p0, .int p1]) (Qi0 0 D Y A r σ') 0 0 (FA 0 A) := by
  rw [f_X7_mostAlike] at hf
  refine Met0 (cc := cX7_mostAlike) (maxL := 7) (ret := (some .int)) (own := RX7) (by decide +kernel) rfl hAD rfl (Nat.le_of_ble_eq_true rfl) ?_
  intro p e s m args below meth c S hr hlocks hW ls hl
  obtain ⟨hx, hb, hml, hown, hts⟩ := id S
  have iX7 : ∀ q ∈ wsX70, q ∈ wsX7_mostAlike := fun q h => List.mem_cons_of_mem _ (List.mem_append_left _ (List.mem_append_left _ (List.mem_append_right _ (h))))
  have hl : lv_has ls 7 [(0, .ref (A 0 6 0)), (1, .int p0), (2, .int p1)] := hl
  refine lv_iconst (v := (0 : Int32)) hx hb dX7_mostAlike_0 (by decide) ?_
  refine lv_istore_n (lv' := [(3, .int (0 : Int32)), (0, .ref (A 0 6 0)), (1, .int p0), (2, .int p1)]) hx hb dX7_mostAlike_1 rfl hl (by decide) rfl (fun ls hl => ?_)
  refine lv_aload_n hx hb dX7_mostAlike_2 rfl (lv_at hl 1 rfl) ?_
  refine gf_X7_alike hx hb hts hown hW (kS_in (by decide)) iX7 (List.mem_of_getElem? (i := 1) rfl) dX7_mostAlike_3 ?_
  refine lv_iconst (v := (0 : Int32)) hx hb dX7_mostAlike_6 (by decide) ?_
  obtain ⟨σ1, hf1, hf⟩ := ss_bind hf
  refine rt_v S (c_J7_fill_53178 l hAD (kS_in (by decide)) hf1) (va_cwS 2 hts gX7_mostAlike_J7_fill_53178 rfl rfl rfl hd_J7_fill_53178 ⟨(Nat.le_of_ble_eq_true rfl), (Nat.le_of_ble_eq_true rfl)⟩) hW rfl rfl hl.1 (Nat.le_of_ble_eq_true rfl) ⟨Nat.zero_le _, Nat.zero_le _⟩ dX7_mostAlike_7 (fun H locs hW => ?_)
  refine lv_iconst (v := (1 : Int32)) hx hb dX7_mostAlike_10 (by decide) ?_
  refine lv_istore (lv' := [(4, .int (1 : Int32)), (3, .int (0 : Int32)), (0, .ref (A 0 6 0)), (1, .int p0), (2, .int p1)]) hx hb dX7_mostAlike_11 hl (by decide) rfl (fun ls hl => ?_)
  have L13 : ∀ (n13 : Nat), ∀ (x13_3 : Int32) (x13_4 : Int32) (σ13_ : ss_M) (H : Heap) (locs : List Loc) (ls : Array Slot), sW 0 D Y A σ13_ s s.heap H locs → lv_has ls 7 [(0, .ref (A 0 6 0)), (1, .int p0), (2, .int p1), (3, .int x13_3), (4, .int x13_4)] → f_X7_mostAlike_L13 p0 p1 n13 x13_3 x13_4 σ13_ = some (r, σ') → W p l e rm_X7_mostAlike s m args below meth c H locs 0 0 (MQ below (Qi0 0 D Y A r σ') args s 0 0 (FA 0 A)) (F0 m 13 ls []) := by
    intro n13
    induction n13 with
    | zero =>
      intro x13_3 x13_4 σ13_ H locs ls hW hl hf
      rw [f_X7_mostAlike_L13] at hf
      cases hf
    | succ n13 ih13 =>
      intro x13_3 x13_4 σ13_ H locs ls hW hl hf
      rw [f_X7_mostAlike_L13] at hf
      refine lv_iload hx hb dX7_mostAlike_13 (lv_at hl 4 rfl) ?_
      refine lv_bipush (v := (30 : Int32)) hx hb dX7_mostAlike_15 (by decide) ?_
      refine lv_icmp_gt (tgt := 86) hx hb dX7_mostAlike_17 (by decide) (fun q2 => ?_) (fun q2 => ?_)
      · rw [if_pos q2] at hf
        refine lv_iload_n hx hb dX7_mostAlike_86 rfl (lv_at hl 3 rfl) ?_
        exact re_i hx hb hr hlocks hW (Option.some.inj hf) dX7_mostAlike_87
      · rw [if_neg q2] at hf
        refine lv_iload_n hx hb dX7_mostAlike_20 rfl (lv_at hl 1 rfl) ?_
        refine lv_iload hx hb dX7_mostAlike_21 (lv_at hl 4 rfl) ?_
        refine lv_ishr hx hb dX7_mostAlike_23 ?_
        refine lv_iconst (v := (1 : Int32)) hx hb dX7_mostAlike_24 (by decide) ?_
        refine lv_iand hx hb dX7_mostAlike_25 ?_
        refine lv_iconst (v := (1 : Int32)) hx hb dX7_mostAlike_26 (by decide) ?_
        have J80 : ∀ (x80_3 : Int32) (σ80_ : ss_M) (H : Heap) (locs : List Loc) (ls : Array Slot), sW 0 D Y A σ80_ s s.heap H locs → lv_has ls 7 [(0, .ref (A 0 6 0)), (1, .int p0), (2, .int p1), (3, .int x80_3), (4, .int x13_4)] → f_X7_mostAlike_j80 x13_4 (f_X7_mostAlike_L13 p0 p1 n13) x80_3 σ80_ = some (r, σ') → W p l e rm_X7_mostAlike s m args below meth c H locs 0 0 (MQ below (Qi0 0 D Y A r σ') args s 0 0 (FA 0 A)) (F0 m 80 ls []) := by
          intro x80_3 σ80_ H locs ls hW hl hf
          rw [f_X7_mostAlike_j80] at hf
          refine lv_iinc (v := (x13_4 + (1 : Int32))) (lv' := [(4, .int (x13_4 + (1 : Int32))), (0, .ref (A 0 6 0)), (1, .int p0), (2, .int p1), (3, .int x80_3)]) hx hb dX7_mostAlike_80 hl (k := 4) rfl rfl (by decide) rfl (fun ls hl => ?_)
          refine lv_goto (tgt := 13) hx hb dX7_mostAlike_83 (by decide) ?_
          exact ih13 x80_3 (x13_4 + (1 : Int32)) σ80_ _ _ _ hW (lv_sub hl [1, 2, 3, 4, 0] rfl) hf
        refine lv_icmp_ne (tgt := 80) hx hb dX7_mostAlike_27 (by decide) (fun q3 => ?_) (fun q3 => ?_)
        · rw [if_neg q3] at hf
          exact J80 x13_3 σ13_ _ _ _ hW (lv_sub hl [0, 1, 2, 3, 4] rfl) hf
        · rw [if_pos q3] at hf
          refine lv_aload_n hx hb dX7_mostAlike_30 rfl (lv_at hl 0 rfl) ?_
          refine gf_X7_page hx hb hts hown hW (kS_in (by decide)) iX7 (List.mem_of_getElem? (i := 2) rfl) dX7_mostAlike_31 ?_
          refine lv_iload hx hb dX7_mostAlike_34 (lv_at hl 4 rfl) ?_
          refine lv_iload_n hx hb dX7_mostAlike_36 rfl (lv_at hl 2 rfl) ?_
          obtain ⟨r4, σ4, hf4, hf⟩ := ss_bd_some hf
          refine rv_i S (c_X4_stuckAt l hAD (by decide) hf4) (cwV 2 hts gX7_mostAlike_X4_stuckAt rfl rfl rfl hd_X4_stuckAt ⟨(Nat.le_of_ble_eq_true rfl), (Nat.le_of_ble_eq_true rfl)⟩) hW (kS_in (by decide)) rfl rfl rfl hl.1 (Nat.le_of_ble_eq_true rfl) ⟨Nat.zero_le _, Nat.zero_le _⟩ dX7_mostAlike_37 (fun H locs hW => ?_)
          refine lv_istore (lv' := [(5, .int r4), (0, .ref (A 0 6 0)), (1, .int p0), (2, .int p1), (3, .int x13_3), (4, .int x13_4)]) hx hb dX7_mostAlike_40 hl (by decide) rfl (fun ls hl => ?_)
          refine lv_iload hx hb dX7_mostAlike_42 (lv_at hl 0 rfl) ?_
          refine lv_iconst (v := (-1 : Int32)) hx hb dX7_mostAlike_44 (by decide) ?_
          have J55 : ∀ (s55_0 : Int32) (σ55_ : ss_M) (H : Heap) (locs : List Loc) (ls : Array Slot), sW 0 D Y A σ55_ s s.heap H locs → lv_has ls 7 [(0, .ref (A 0 6 0)), (1, .int p0), (2, .int p1), (3, .int x13_3), (4, .int x13_4)] → f_X7_mostAlike_j55 x13_3 x13_4 (f_X7_mostAlike_L13 p0 p1 n13) s55_0 σ55_ = some (r, σ') → W p l e rm_X7_mostAlike s m args below meth c H locs 0 0 (MQ below (Qi0 0 D Y A r σ') args s 0 0 (FA 0 A)) (F0 m 55 ls [.int s55_0]) := by
            intro s55_0 σ55_ H locs ls hW hl hf
            rw [f_X7_mostAlike_j55] at hf
            refine lv_istore (lv' := [(6, .int s55_0), (0, .ref (A 0 6 0)), (1, .int p0), (2, .int p1), (3, .int x13_3), (4, .int x13_4)]) hx hb dX7_mostAlike_55 hl (by decide) rfl (fun ls hl => ?_)
            refine lv_aload_n hx hb dX7_mostAlike_57 rfl (lv_at hl 1 rfl) ?_
            refine gf_X7_alike hx hb hts hown hW (kS_in (by decide)) iX7 (List.mem_of_getElem? (i := 1) rfl) dX7_mostAlike_58 ?_
            refine lv_iload hx hb dX7_mostAlike_61 (lv_at hl 0 rfl) ?_
            refine lv_dup2_11 hx hb dX7_mostAlike_63 rfl rfl ?_
            obtain ⟨g5, hf⟩ := ss_if hf
            refine ra_i hx hb hW (kS_in (by decide)) g5 dX7_mostAlike_64 ?_
            refine lv_iconst (v := (1 : Int32)) hx hb dX7_mostAlike_65 (by decide) ?_
            refine lv_iadd hx hb dX7_mostAlike_66 ?_
            obtain ⟨g6, hf⟩ := ss_if hf
            refine rs_i hx hb hW (kS_in (by decide)) g6 dX7_mostAlike_67 (fun H locs hW => ?_)
            refine lv_iload_n hx hb dX7_mostAlike_68 rfl (lv_at hl 4 rfl) ?_
            refine lv_aload_n hx hb dX7_mostAlike_69 rfl (lv_at hl 1 rfl) ?_
            refine gf_X7_alike hx hb hts hown hW (kS_in (by decide)) iX7 (List.mem_of_getElem? (i := 1) rfl) dX7_mostAlike_70 ?_
            refine lv_iload hx hb dX7_mostAlike_73 (lv_at hl 0 rfl) ?_
            obtain ⟨g7, hf⟩ := ss_if hf
            refine ra_i hx hb hW (kS_in (by decide)) g7 dX7_mostAlike_75 ?_
            refine va_mmax hx hb (hml.trans hl.1.symm) hown (hts _ (List.mem_of_getElem? (i := 3) rfl)) (hts _ (List.mem_of_getElem? (i := 4) rfl)) (hts _ (List.mem_of_getElem? (i := 5) rfl)) (hts _ (List.mem_of_getElem? (i := 6) rfl)) (Nat.le_of_ble_eq_true rfl) (Nat.le_of_ble_eq_true rfl) (Nat.zero_le _) (Nat.zero_le _) dX7_mostAlike_76 ?_
            refine lv_istore_n (lv' := [(3, .int (if x13_3 < (sA (sAu σ55_ 15 0 (upd (sA σ55_ 15 0) (s55_0).toNatClampNeg ((sA σ55_ 15 0 (s55_0).toNatClampNeg) + (1 : Int32)))) 15 0 (s55_0).toNatClampNeg) then (sA (sAu σ55_ 15 0 (upd (sA σ55_ 15 0) (s55_0).toNatClampNeg ((sA σ55_ 15 0 (s55_0).toNatClampNeg) + (1 : Int32)))) 15 0 (s55_0).toNatClampNeg) else x13_3)), (6, .int s55_0), (0, .ref (A 0 6 0)), (1, .int p0), (2, .int p1), (4, .int x13_4)]) hx hb dX7_mostAlike_79 rfl hl (by decide) rfl (fun ls hl => ?_)
            exact J80 (if x13_3 < (sA (sAu σ55_ 15 0 (upd (sA σ55_ 15 0) (s55_0).toNatClampNeg ((sA σ55_ 15 0 (s55_0).toNatClampNeg) + (1 : Int32)))) 15 0 (s55_0).toNatClampNeg) then (sA (sAu σ55_ 15 0 (upd (sA σ55_ 15 0) (s55_0).toNatClampNeg ((sA σ55_ 15 0 (s55_0).toNatClampNeg) + (1 : Int32)))) 15 0 (s55_0).toNatClampNeg) else x13_3) (sAu σ55_ 15 0 (upd (sA σ55_ 15 0) (s55_0).toNatClampNeg ((sA σ55_ 15 0 (s55_0).toNatClampNeg) + (1 : Int32)))) _ _ _ hW (lv_sub hl [2, 3, 4, 0, 5] rfl) hf
          refine lv_icmp_ne (tgt := 53) hx hb dX7_mostAlike_45 (by decide) (fun q8 => ?_) (fun q8 => ?_)
          · rw [if_neg q8] at hf
            refine lv_iload hx hb dX7_mostAlike_53 (lv_at hl 0 rfl) ?_
            exact J55 r4 σ4 _ _ _ hW (lv_sub hl [1, 2, 3, 4, 5] rfl) hf
          · rw [if_pos q8] at hf
            refine lv_bipush (v := (12 : Int32)) hx hb dX7_mostAlike_48 (by decide) ?_
            refine lv_goto (tgt := 55) hx hb dX7_mostAlike_50 (by decide) ?_
            exact J55 (12 : Int32) σ4 _ _ _ hW (lv_sub hl [1, 2, 3, 4, 5] rfl) hf
  exact L13 FU (0 : Int32) (1 : Int32) σ1 _ _ _ hW (lv_sub hl [2, 3, 4, 1, 0] rfl) hf
def f_X7_shorter_j55 (x22_4 : Int32) (kb22 : Int32 → Int32 → Int32 → ss_M → Option (Int32 × ss_M)) (x55_2 : Int32) (x55_3 : Int32) (σ55_ : ss_M) : Option (Int32 × ss_M) :=
  kb22 x55_2 x55_3 (x22_4 + (1 : Int32)) σ55_
def f_X7_shorter_L22 (r1 : Int32) : Nat → Int32 → Int32 → Int32 → ss_M → Option (Int32 × ss_M)
  | 0, _, _, _, _ => none
  | n22 + 1, x22_2, x22_3, x22_4, σ22_ => if (sG σ22_ 5 0) ≤ x22_4 then (some (x22_2, σ22_)) else (ss_bd (f_X7_mostAlike r1 x22_4 σ22_) (fun r4 σ4 => if x22_3 ≤ r4 then (f_X7_shorter_j55 x22_4 (f_X7_shorter_L22 r1 n22) x22_2 x22_3 σ4) else (f_X7_shorter_j55 x22_4 (f_X7_shorter_L22 r1 n22) x22_4 r4 σ4)))
def f_X7_shorter (σ : ss_M) : Option (Int32 × ss_M) :=
  ss_bd (f_X4_breathsHeard 0 σ) (fun r1 σ1 => if r1 = (0 : Int32) then (some ((-1 : Int32), σ1)) else (f_X7_shorter_L22 r1 FU (-1 : Int32) (31 : Int32) (0 : Int32) σ1))
def rm_X7_shorter : Room := { frames := 10, cells := 0, slots := 0, locals := 500 }
theorem hd_X7_shorter : yX7_shorter.cls = RX7 ∧ yX7_shorter.cls ≠ "java/lang/invoke/MethodHandle" ∧ yX7_shorter.cls ≠ "java/lang/invoke/VarHandle" ∧ (parseMethodDescriptor yX7_shorter.desc).map (fun d => d.parameters.length) = some 0 := by decide +kernel
set_option maxHeartbeats 4000000 in
set_option maxRecDepth 100000 in
theorem c_X7_shorter (l : Launch) {D : va_G} {Y : Nat → ClassId} {A : ss_A} (hAD : AD 0 A)   {r : Int32} {σ σ' : ss_M} (hf : f_X7_shorter σ = some (r, σ')) : Met l yX7_shorter wsX7_shorter rm_X7_shorter (Pc0 0 D Y A σ [.ref (A 0 6 0)]) (Qi0 0 D Y A r σ') 0 0 (FA 0 A) := by
  rw [f_X7_shorter] at hf
  refine Met0 (cc := cX7_shorter) (maxL := 6) (ret := (some .int)) (own := RX7) (by decide +kernel) rfl hAD rfl (Nat.le_of_ble_eq_true rfl) ?_
  intro p e s m args below meth c S hr hlocks hW ls hl
  obtain ⟨hx, hb, hml, hown, hts⟩ := id S
  have iX7 : ∀ q ∈ wsX70, q ∈ wsX7_shorter := fun q h => List.mem_cons_of_mem _ (List.mem_append_left _ (List.mem_append_left _ (List.mem_append_right _ (h))))
  have iX4 : ∀ q ∈ wsX40, q ∈ wsX7_shorter := fun q h => List.mem_cons_of_mem _ (List.mem_append_left _ (List.mem_append_right _ (h)))
  have hl : lv_has ls 6 [(0, .ref (A 0 6 0))] := hl
  refine lv_aload_n hx hb dX7_shorter_0 rfl (lv_at hl 0 rfl) ?_
  refine gf_X7_page hx hb hts hown hW (kS_in (by decide)) iX7 (List.mem_of_getElem? (i := 1) rfl) dX7_shorter_1 ?_
  obtain ⟨r1, σ1, hf1, hf⟩ := ss_bd_some hf
  refine rv_i S (c_X4_breathsHeard l hAD (by decide) hf1) (cwV 0 hts gX7_shorter_X4_breathsHeard rfl rfl rfl hd_X4_breathsHeard ⟨(Nat.le_of_ble_eq_true rfl), (Nat.le_of_ble_eq_true rfl)⟩) hW (kS_in (by decide)) rfl rfl rfl hl.1 (Nat.le_of_ble_eq_true rfl) ⟨Nat.zero_le _, Nat.zero_le _⟩ dX7_shorter_4 (fun H locs hW => ?_)
  refine lv_istore_n (lv' := [(1, .int r1), (0, .ref (A 0 6 0))]) hx hb dX7_shorter_7 rfl hl (by decide) rfl (fun ls hl => ?_)
  refine lv_iconst (v := (-1 : Int32)) hx hb dX7_shorter_8 (by decide) ?_
  refine lv_istore_n (lv' := [(2, .int (-1 : Int32)), (1, .int r1), (0, .ref (A 0 6 0))]) hx hb dX7_shorter_9 rfl hl (by decide) rfl (fun ls hl => ?_)
  refine lv_bipush (v := (31 : Int32)) hx hb dX7_shorter_10 (by decide) ?_
  refine lv_istore_n (lv' := [(3, .int (31 : Int32)), (2, .int (-1 : Int32)), (1, .int r1), (0, .ref (A 0 6 0))]) hx hb dX7_shorter_12 rfl hl (by decide) rfl (fun ls hl => ?_)
  refine lv_iload_n hx hb dX7_shorter_13 rfl (lv_at hl 2 rfl) ?_
  refine lv_if_ne (tgt := 19) hx hb dX7_shorter_14 (by decide) (fun q2 => ?_) (fun q2 => ?_)
  · rw [if_neg q2] at hf
    refine lv_iconst (v := (0 : Int32)) hx hb dX7_shorter_19 (by decide) ?_
    refine lv_istore (lv' := [(4, .int (0 : Int32)), (3, .int (31 : Int32)), (2, .int (-1 : Int32)), (1, .int r1), (0, .ref (A 0 6 0))]) hx hb dX7_shorter_20 hl (by decide) rfl (fun ls hl => ?_)
    have L22 : ∀ (n22 : Nat), ∀ (x22_2 : Int32) (x22_3 : Int32) (x22_4 : Int32) (σ22_ : ss_M) (H : Heap) (locs : List Loc) (ls : Array Slot), sW 0 D Y A σ22_ s s.heap H locs → lv_has ls 6 [(0, .ref (A 0 6 0)), (1, .int r1), (2, .int x22_2), (3, .int x22_3), (4, .int x22_4)] → f_X7_shorter_L22 r1 n22 x22_2 x22_3 x22_4 σ22_ = some (r, σ') → W p l e rm_X7_shorter s m args below meth c H locs 0 0 (MQ below (Qi0 0 D Y A r σ') args s 0 0 (FA 0 A)) (F0 m 22 ls []) := by
      intro n22
      induction n22 with
      | zero =>
        intro x22_2 x22_3 x22_4 σ22_ H locs ls hW hl hf
        rw [f_X7_shorter_L22] at hf
        cases hf
      | succ n22 ih22 =>
        intro x22_2 x22_3 x22_4 σ22_ H locs ls hW hl hf
        rw [f_X7_shorter_L22] at hf
        refine lv_iload hx hb dX7_shorter_22 (lv_at hl 4 rfl) ?_
        refine lv_aload_n hx hb dX7_shorter_24 rfl (lv_at hl 0 rfl) ?_
        refine gf_X7_page hx hb hts hown hW (kS_in (by decide)) iX7 (List.mem_of_getElem? (i := 1) rfl) dX7_shorter_25 ?_
        refine gf_X4_words hx hb hts hown hW (kS_in (by decide)) iX4 (List.mem_of_getElem? (i := 2) rfl) dX7_shorter_28 ?_
        refine lv_icmp_ge (tgt := 61) hx hb dX7_shorter_31 (by decide) (fun q3 => ?_) (fun q3 => ?_)
        · rw [if_pos q3] at hf
          refine lv_iload_n hx hb dX7_shorter_61 rfl (lv_at hl 2 rfl) ?_
          exact re_i hx hb hr hlocks hW (Option.some.inj hf) dX7_shorter_62
        · rw [if_neg q3] at hf
          refine lv_aload_n hx hb dX7_shorter_34 rfl (lv_at hl 0 rfl) ?_
          refine lv_iload_n hx hb dX7_shorter_35 rfl (lv_at hl 1 rfl) ?_
          refine lv_iload hx hb dX7_shorter_36 (lv_at hl 4 rfl) ?_
          obtain ⟨r4, σ4, hf4, hf⟩ := ss_bd_some hf
          refine rv_i S (c_X7_mostAlike l hAD  hf4) (cwV 2 hts gX7_shorter_X7_mostAlike rfl rfl rfl hd_X7_mostAlike ⟨(Nat.le_of_ble_eq_true rfl), (Nat.le_of_ble_eq_true rfl)⟩) hW (kS_in (by decide)) rfl rfl rfl hl.1 (Nat.le_of_ble_eq_true rfl) ⟨Nat.zero_le _, Nat.zero_le _⟩ dX7_shorter_38 (fun H locs hW => ?_)
          refine lv_istore (lv' := [(5, .int r4), (0, .ref (A 0 6 0)), (1, .int r1), (2, .int x22_2), (3, .int x22_3), (4, .int x22_4)]) hx hb dX7_shorter_41 hl (by decide) rfl (fun ls hl => ?_)
          refine lv_iload hx hb dX7_shorter_43 (lv_at hl 0 rfl) ?_
          refine lv_iload_n hx hb dX7_shorter_45 rfl (lv_at hl 4 rfl) ?_
          have J55 : ∀ (x55_2 : Int32) (x55_3 : Int32) (σ55_ : ss_M) (H : Heap) (locs : List Loc) (ls : Array Slot), sW 0 D Y A σ55_ s s.heap H locs → lv_has ls 6 [(0, .ref (A 0 6 0)), (1, .int r1), (2, .int x55_2), (3, .int x55_3), (4, .int x22_4)] → f_X7_shorter_j55 x22_4 (f_X7_shorter_L22 r1 n22) x55_2 x55_3 σ55_ = some (r, σ') → W p l e rm_X7_shorter s m args below meth c H locs 0 0 (MQ below (Qi0 0 D Y A r σ') args s 0 0 (FA 0 A)) (F0 m 55 ls []) := by
            intro x55_2 x55_3 σ55_ H locs ls hW hl hf
            rw [f_X7_shorter_j55] at hf
            refine lv_iinc (v := (x22_4 + (1 : Int32))) (lv' := [(4, .int (x22_4 + (1 : Int32))), (0, .ref (A 0 6 0)), (1, .int r1), (2, .int x55_2), (3, .int x55_3)]) hx hb dX7_shorter_55 hl (k := 4) rfl rfl (by decide) rfl (fun ls hl => ?_)
            refine lv_goto (tgt := 22) hx hb dX7_shorter_58 (by decide) ?_
            exact ih22 x55_2 x55_3 (x22_4 + (1 : Int32)) σ55_ _ _ _ hW (lv_sub hl [1, 2, 3, 4, 0] rfl) hf
          refine lv_icmp_ge (tgt := 55) hx hb dX7_shorter_46 (by decide) (fun q5 => ?_) (fun q5 => ?_)
          · rw [if_pos q5] at hf
            exact J55 x22_2 x22_3 σ4 _ _ _ hW (lv_sub hl [1, 2, 3, 4, 5] rfl) hf
          · rw [if_neg q5] at hf
            refine lv_iload hx hb dX7_shorter_49 (lv_at hl 5 rfl) ?_
            refine lv_istore_n (lv' := [(2, .int x22_4), (5, .int r4), (0, .ref (A 0 6 0)), (1, .int r1), (3, .int x22_3), (4, .int x22_4)]) hx hb dX7_shorter_51 rfl hl (by decide) rfl (fun ls hl => ?_)
            refine lv_iload hx hb dX7_shorter_52 (lv_at hl 1 rfl) ?_
            refine lv_istore_n (lv' := [(3, .int r4), (2, .int x22_4), (5, .int r4), (0, .ref (A 0 6 0)), (1, .int r1), (4, .int x22_4)]) hx hb dX7_shorter_54 rfl hl (by decide) rfl (fun ls hl => ?_)
            exact J55 x22_4 r4 σ4 _ _ _ hW (lv_sub hl [3, 4, 1, 0, 5] rfl) hf
    exact L22 FU (-1 : Int32) (31 : Int32) (0 : Int32) σ1 _ _ _ hW (lv_sub hl [4, 3, 2, 1, 0] rfl) hf
  · rw [if_pos q2] at hf
    refine lv_iconst (v := (-1 : Int32)) hx hb dX7_shorter_17 (by decide) ?_
    exact re_i hx hb hr hlocks hW (Option.some.inj hf) dX7_shorter_18
def f_X7_gain (p0 : Int32) (p1 : Int32) (p2 : Int32) (p3 : Int32) (σ : ss_M) : Option (Int32 × ss_M) :=
  if p0 ≤ p1 then (some ((0 : Int32), σ)) else (if p0 < p3 then (some ((0 : Int32), σ)) else (some ((p2 - p0), σ)))
def rm_X7_gain : Room := { frames := 0, cells := 0, slots := 0, locals := 0 }
theorem hd_X7_gain : yX7_gain.cls ≠ "java/lang/invoke/MethodHandle" ∧ yX7_gain.cls ≠ "java/lang/invoke/VarHandle" ∧ (parseMethodDescriptor yX7_gain.desc).map (fun d => d.parameters.length) = some 4 := by decide +kernel
set_option maxHeartbeats 4000000 in
set_option maxRecDepth 100000 in
theorem c_X7_gain (l : Launch) {D : va_G} {Y : Nat → ClassId} {A : ss_A} (hAD : AD 0 A) {p0 : Int32} {p1 : Int32} {p2 : Int32} {p3 : Int32}  {r : Int32} {σ σ' : ss_M} (hf : f_X7_gain p0 p1 p2 p3 σ = some (r, σ')) : Met l yX7_gain wsX7_gain rm_X7_gain (Pc0 0 D Y A σ [.int p0, .int p1, .int p2, .int p3]) (Qi0 0 D Y A r σ') 0 0 (FA 0 A) := by
  rw [f_X7_gain] at hf
  refine Met0 (cc := cX7_gain) (maxL := 4) (ret := (some .int)) (own := RX7) (by decide +kernel) rfl hAD rfl (Nat.le_of_ble_eq_true rfl) ?_
  intro p e s m args below meth c S hr hlocks hW ls hl
  obtain ⟨hx, hb, hml, hown, hts⟩ := id S
  have hl : lv_has ls 4 [(0, .int p0), (1, .int p1), (2, .int p2), (3, .int p3)] := hl
  refine lv_iload_n hx hb dX7_gain_0 rfl (lv_at hl 0 rfl) ?_
  refine lv_iload_n hx hb dX7_gain_1 rfl (lv_at hl 1 rfl) ?_
  refine lv_icmp_le (tgt := 16) hx hb dX7_gain_2 (by decide) (fun q1 => ?_) (fun q1 => ?_)
  · rw [if_pos q1] at hf
    refine lv_iconst (v := (0 : Int32)) hx hb dX7_gain_16 (by decide) ?_
    exact re_i hx hb hr hlocks hW (Option.some.inj hf) dX7_gain_17
  · rw [if_neg q1] at hf
    refine lv_iload_n hx hb dX7_gain_5 rfl (lv_at hl 0 rfl) ?_
    refine lv_iload_n hx hb dX7_gain_6 rfl (lv_at hl 3 rfl) ?_
    refine lv_icmp_lt (tgt := 16) hx hb dX7_gain_7 (by decide) (fun q2 => ?_) (fun q2 => ?_)
    · rw [if_pos q2] at hf
      refine lv_iconst (v := (0 : Int32)) hx hb dX7_gain_16 (by decide) ?_
      exact re_i hx hb hr hlocks hW (Option.some.inj hf) dX7_gain_17
    · rw [if_neg q2] at hf
      refine lv_iload_n hx hb dX7_gain_10 rfl (lv_at hl 2 rfl) ?_
      refine lv_iload_n hx hb dX7_gain_11 rfl (lv_at hl 0 rfl) ?_
      refine lv_isub hx hb dX7_gain_12 ?_
      refine lv_goto (tgt := 17) hx hb dX7_gain_13 (by decide) ?_
      exact re_i hx hb hr hlocks hW (Option.some.inj hf) dX7_gain_17
def f_X7_isBest_L13 (p1 : Int32) (p2 : Int32) (p3 : Int32) (p4 : Int32) (r1 : Int32) : Nat → Int32 → ss_M → Option (Int32 × ss_M)
  | 0, _, _ => none
  | n13 + 1, x13_6, σ13_ => if p1 < x13_6 then (some ((1 : Int32), σ13_)) else (ss_bd (f_X7_gain x13_6 p2 p3 p4 σ13_) (fun r3 σ3 => if r3 ≤ r1 then ((f_X7_isBest_L13 p1 p2 p3 p4 r1 n13) (x13_6 + (1 : Int32)) σ3) else (some ((0 : Int32), σ3))))
def f_X7_isBest (p0 : Int32) (p1 : Int32) (p2 : Int32) (p3 : Int32) (p4 : Int32) (σ : ss_M) : Option (Int32 × ss_M) :=
  ss_bd (f_X7_gain p0 p2 p3 p4 σ) (fun r1 σ1 => f_X7_isBest_L13 p1 p2 p3 p4 r1 FU (0 : Int32) σ1)
def rm_X7_isBest : Room := { frames := 2, cells := 0, slots := 0, locals := 100 }
theorem hd_X7_isBest : yX7_isBest.cls ≠ "java/lang/invoke/MethodHandle" ∧ yX7_isBest.cls ≠ "java/lang/invoke/VarHandle" ∧ (parseMethodDescriptor yX7_isBest.desc).map (fun d => d.parameters.length) = some 5 := by decide +kernel
set_option maxHeartbeats 4000000 in
set_option maxRecDepth 100000 in
theorem c_X7_isBest (l : Launch) {D : va_G} {Y : Nat → ClassId} {A : ss_A} (hAD : AD 0 A) {p0 : Int32} {p1 : Int32} {p2 : Int32} {p3 : Int32} {p4 : Int32}  {r : Int32} {σ σ' : ss_M} (hf : f_X7_isBest p0 p1 p2 p3 p4 σ = some (r, σ')) : Met l yX7_isBest wsX7_isBest rm_X7_isBest (Pc0 0 D Y A σ [.int p0, .int p1, .int p2, .int p3, .int p4]) (Qi0 0 D Y A r σ') 0 0 (FA 0 A) := by
  rw [f_X7_isBest] at hf
  refine Met0 (cc := cX7_isBest) (maxL := 7) (ret := (some .boolean)) (own := RX7) (by decide +kernel) rfl hAD rfl (Nat.le_of_ble_eq_true rfl) ?_
  intro p e s m args below meth c S hr hlocks hW ls hl
  obtain ⟨hx, hb, hml, hown, hts⟩ := id S
  have hl : lv_has ls 7 [(0, .int p0), (1, .int p1), (2, .int p2), (3, .int p3), (4, .int p4)] := hl
  refine lv_iload_n hx hb dX7_isBest_0 rfl (lv_at hl 0 rfl) ?_
  refine lv_iload_n hx hb dX7_isBest_1 rfl (lv_at hl 2 rfl) ?_
  refine lv_iload_n hx hb dX7_isBest_2 rfl (lv_at hl 3 rfl) ?_
  refine lv_iload hx hb dX7_isBest_3 (lv_at hl 4 rfl) ?_
  obtain ⟨r1, σ1, hf1, hf⟩ := ss_bd_some hf
  refine rt_i S (c_X7_gain l hAD  hf1) (va_cwS 4 hts gX7_isBest_X7_gain rfl rfl rfl hd_X7_gain ⟨(Nat.le_of_ble_eq_true rfl), (Nat.le_of_ble_eq_true rfl)⟩) hW rfl rfl hl.1 (Nat.le_of_ble_eq_true rfl) ⟨Nat.zero_le _, Nat.zero_le _⟩ dX7_isBest_5 (fun H locs hW => ?_)
  refine lv_istore (lv' := [(5, .int r1), (0, .int p0), (1, .int p1), (2, .int p2), (3, .int p3), (4, .int p4)]) hx hb dX7_isBest_8 hl (by decide) rfl (fun ls hl => ?_)
  refine lv_iconst (v := (0 : Int32)) hx hb dX7_isBest_10 (by decide) ?_
  refine lv_istore (lv' := [(6, .int (0 : Int32)), (5, .int r1), (0, .int p0), (1, .int p1), (2, .int p2), (3, .int p3), (4, .int p4)]) hx hb dX7_isBest_11 hl (by decide) rfl (fun ls hl => ?_)
  have L13 : ∀ (n13 : Nat), ∀ (x13_6 : Int32) (σ13_ : ss_M) (H : Heap) (locs : List Loc) (ls : Array Slot), sW 0 D Y A σ13_ s s.heap H locs → lv_has ls 7 [(1, .int p1), (2, .int p2), (3, .int p3), (4, .int p4), (5, .int r1), (6, .int x13_6)] → f_X7_isBest_L13 p1 p2 p3 p4 r1 n13 x13_6 σ13_ = some (r, σ') → W p l e rm_X7_isBest s m args below meth c H locs 0 0 (MQ below (Qi0 0 D Y A r σ') args s 0 0 (FA 0 A)) (F0 m 13 ls []) := by
    intro n13
    induction n13 with
    | zero =>
      intro x13_6 σ13_ H locs ls hW hl hf
      rw [f_X7_isBest_L13] at hf
      cases hf
    | succ n13 ih13 =>
      intro x13_6 σ13_ H locs ls hW hl hf
      rw [f_X7_isBest_L13] at hf
      refine lv_iload hx hb dX7_isBest_13 (lv_at hl 5 rfl) ?_
      refine lv_iload_n hx hb dX7_isBest_15 rfl (lv_at hl 0 rfl) ?_
      refine lv_icmp_gt (tgt := 41) hx hb dX7_isBest_16 (by decide) (fun q2 => ?_) (fun q2 => ?_)
      · rw [if_pos q2] at hf
        refine lv_iconst (v := (1 : Int32)) hx hb dX7_isBest_41 (by decide) ?_
        exact re_z hx hb hr hlocks hW (by decide) (Option.some.inj hf) dX7_isBest_42
      · rw [if_neg q2] at hf
        refine lv_iload hx hb dX7_isBest_19 (lv_at hl 5 rfl) ?_
        refine lv_iload_n hx hb dX7_isBest_21 rfl (lv_at hl 1 rfl) ?_
        refine lv_iload_n hx hb dX7_isBest_22 rfl (lv_at hl 2 rfl) ?_
        refine lv_iload hx hb dX7_isBest_23 (lv_at hl 3 rfl) ?_
        obtain ⟨r3, σ3, hf3, hf⟩ := ss_bd_some hf
        refine rt_i S (c_X7_gain l hAD  hf3) (va_cwS 4 hts gX7_isBest_X7_gain rfl rfl rfl hd_X7_gain ⟨(Nat.le_of_ble_eq_true rfl), (Nat.le_of_ble_eq_true rfl)⟩) hW rfl rfl hl.1 (Nat.le_of_ble_eq_true rfl) ⟨Nat.zero_le _, Nat.zero_le _⟩ dX7_isBest_25 (fun H locs hW => ?_)
        refine lv_iload hx hb dX7_isBest_28 (lv_at hl 4 rfl) ?_
        refine lv_icmp_le (tgt := 35) hx hb dX7_isBest_30 (by decide) (fun q4 => ?_) (fun q4 => ?_)
        · rw [if_pos q4] at hf
          refine lv_iinc (v := (x13_6 + (1 : Int32))) (lv' := [(6, .int (x13_6 + (1 : Int32))), (1, .int p1), (2, .int p2), (3, .int p3), (4, .int p4), (5, .int r1)]) hx hb dX7_isBest_35 hl (k := 5) rfl rfl (by decide) rfl (fun ls hl => ?_)
          refine lv_goto (tgt := 13) hx hb dX7_isBest_38 (by decide) ?_
          exact ih13 (x13_6 + (1 : Int32)) σ3 _ _ _ hW (lv_sub hl [1, 2, 3, 4, 5, 0] rfl) hf
        · rw [if_neg q4] at hf
          refine lv_iconst (v := (0 : Int32)) hx hb dX7_isBest_33 (by decide) ?_
          exact re_z hx hb hr hlocks hW (by decide) (Option.some.inj hf) dX7_isBest_34
  exact L13 FU (0 : Int32) σ1 _ _ _ hW (lv_sub hl [3, 4, 5, 6, 1, 0] rfl) hf
def f_X7_bid_j83 (σ83_ : ss_M) : Option (Int32 × ss_M) :=
  ss_bd (f_X7_bad (-10 : Int32) σ83_) (fun r4 σ4 => some (r4, σ4))
def f_X7_bid_j189 (p5 : Int32) (x189_10 : Int32) (x189_11 : Int32) (σ189_ : ss_M) : Option (Int32 × ss_M) :=
  if p5 = (0 : Int32) then (some (x189_11, σ189_)) else (some (x189_10, σ189_))
def f_X7_bid_j183 (x109_12 : Int32) (kb109 : Int32 → Int32 → Int32 → ss_M → Option (Int32 × ss_M)) (x183_10 : Int32) (x183_11 : Int32) (σ183_ : ss_M) : Option (Int32 × ss_M) :=
  kb109 x183_10 x183_11 (x109_12 + (1 : Int32)) σ183_
def f_X7_bid_j177 (x118_13 : Int32) (kb118 : Int32 → Int32 → Int32 → ss_M → Option (Int32 × ss_M)) (x177_10 : Int32) (x177_11 : Int32) (σ177_ : ss_M) : Option (Int32 × ss_M) :=
  kb118 x177_10 x177_11 (x118_13 + (1 : Int32)) σ177_
def f_X7_bid_j172 (x118_11 : Int32) (x118_13 : Int32) (kb118 : Int32 → Int32 → Int32 → ss_M → Option (Int32 × ss_M)) (s172_0 : Int32) (σ172_ : ss_M) : Option (Int32 × ss_M) :=
  f_X7_bid_j177 x118_13 kb118 s172_0 (x118_11 + (1 : Int32)) σ172_
def f_X7_bid_L118 (p1 : Int32) (p2 : Int32) (p3 : Int32) (p4 : Int32) (r10 : Int32) (x109_12 : Int32) (k118_183 : Int32 → Int32 → ss_M → Option (Int32 × ss_M)) : Nat → Int32 → Int32 → Int32 → ss_M → Option (Int32 × ss_M)
  | 0, _, _, _, _ => none
  | n118 + 1, x118_10, x118_11, x118_13, σ118_ => if p2 < x118_13 then (k118_183 x118_10 x118_11 σ118_) else (ss_bd (f_X7_isBest x109_12 p1 x118_13 p3 r10 σ118_) (fun r14 σ14 => if r14 = (0 : Int32) then (f_X7_bid_j177 x118_13 (f_X7_bid_L118 p1 p2 p3 p4 r10 x109_12 k118_183 n118) x118_10 x118_11 σ14) else (ss_bd (f_X7_isBest x118_13 p2 x109_12 p4 r10 σ14) (fun r16 σ16 => if r16 = (0 : Int32) then (f_X7_bid_j177 x118_13 (f_X7_bid_L118 p1 p2 p3 p4 r10 x109_12 k118_183 n118) x118_10 x118_11 σ16) else (if x118_11 = (0 : Int32) then (f_X7_bid_j172 x118_11 x118_13 (f_X7_bid_L118 p1 p2 p3 p4 r10 x109_12 k118_183 n118) (((100 : Int32) * x109_12) + x118_13) σ16) else (f_X7_bid_j172 x118_11 x118_13 (f_X7_bid_L118 p1 p2 p3 p4 r10 x109_12 k118_183 n118) x118_10 σ16))))))
def f_X7_bid_L109 (p1 : Int32) (p2 : Int32) (p3 : Int32) (p4 : Int32) (r10 : Int32) (k109_189 : Int32 → Int32 → ss_M → Option (Int32 × ss_M)) : Nat → Int32 → Int32 → Int32 → ss_M → Option (Int32 × ss_M)
  | 0, _, _, _, _ => none
  | n109 + 1, x109_10, x109_11, x109_12, σ109_ => if p1 < x109_12 then (k109_189 x109_10 x109_11 σ109_) else (f_X7_bid_L118 p1 p2 p3 p4 r10 x109_12 (f_X7_bid_j183 x109_12 (f_X7_bid_L109 p1 p2 p3 p4 r10 k109_189 n109)) FU x109_10 x109_11 (0 : Int32) σ109_)
def f_X7_bid_j54 (p0 : Int32) (p1 : Int32) (p2 : Int32) (p3 : Int32) (p4 : Int32) (p5 : Int32) (s25_0 : Int32) (s54_0 : Int32) (σ54_ : ss_M) : Option (Int32 × ss_M) :=
  ss_bd (f_X1_isOne p0 σ54_) (fun r3 σ3 => if r3 = (0 : Int32) then (f_X7_bid_j83 σ3) else (if s25_0 = (0 : Int32) then (f_X7_bid_j83 σ3) else (if s54_0 = (0 : Int32) then (f_X7_bid_j83 σ3) else (ss_bd (f_X7_isWithin p5 (0 : Int32) (1 : Int32) σ3) (fun r8 σ8 => if r8 = (0 : Int32) then (f_X7_bid_j83 σ8) else (ss_bd (f_X4_costOf 0 p0 σ8) (fun r10 σ10 => f_X7_bid_L109 p1 p2 p3 p4 r10 (f_X7_bid_j189 p5) FU (-1 : Int32) (0 : Int32) (0 : Int32) σ10)))))))
def f_X7_bid_j53 (p0 : Int32) (p1 : Int32) (p2 : Int32) (p3 : Int32) (p4 : Int32) (p5 : Int32) (s25_0 : Int32) (σ53_ : ss_M) : Option (Int32 × ss_M) :=
  f_X7_bid_j54 p0 p1 p2 p3 p4 p5 s25_0 (0 : Int32) σ53_
def f_X7_bid_j25 (p0 : Int32) (p1 : Int32) (p2 : Int32) (p3 : Int32) (p4 : Int32) (p5 : Int32) (s25_0 : Int32) (σ25_ : ss_M) : Option (Int32 × ss_M) :=
  ss_bd (f_X7_isWithin p3 (0 : Int32) (20 : Int32) σ25_) (fun r2 σ2 => if r2 = (0 : Int32) then (f_X7_bid_j53 p0 p1 p2 p3 p4 p5 s25_0 σ2) else (ss_bd (f_X7_isWithin p4 (0 : Int32) (20 : Int32) σ2) (fun r20 σ20 => if r20 = (0 : Int32) then (f_X7_bid_j53 p0 p1 p2 p3 p4 p5 s25_0 σ20) else (f_X7_bid_j54 p0 p1 p2 p3 p4 p5 s25_0 (1 : Int32) σ20))))
def f_X7_bid_j24 (p0 : Int32) (p1 : Int32) (p2 : Int32) (p3 : Int32) (p4 : Int32) (p5 : Int32) (σ24_ : ss_M) : Option (Int32 × ss_M) :=
  f_X7_bid_j25 p0 p1 p2 p3 p4 p5 (0 : Int32) σ24_
def f_X7_bid (p0 : Int32) (p1 : Int32) (p2 : Int32) (p3 : Int32) (p4 : Int32) (p5 : Int32) (σ : ss_M) : Option (Int32 × ss_M) :=
  ss_bd (f_X7_isWithin p1 (0 : Int32) (20 : Int32) σ) (fun r1 σ1 => if r1 = (0 : Int32) then (f_X7_bid_j24 p0 p1 p2 p3 p4 p5 σ1) else (ss_bd (f_X7_isWithin p2 (0 : Int32) (20 : Int32) σ1) (fun r23 σ23 => if r23 = (0 : Int32) then (f_X7_bid_j24 p0 p1 p2 p3 p4 p5 σ23) else (f_X7_bid_j25 p0 p1 p2 p3 p4 p5 (1 : Int32) σ23))))
def rm_X7_bid : Room := { frames := 4, cells := 0, slots := 0, locals := 200 }
theorem hd_X7_bid : yX7_bid.cls = RX7 ∧ yX7_bid.cls ≠ "java/lang/invoke/MethodHandle" ∧ yX7_bid.cls ≠ "java/lang/invoke/VarHandle" ∧ (parseMethodDescriptor yX7_bid.desc).map (fun d => d.parameters.length) = some 6 := by decide +kernel
set_option maxHeartbeats 4000000 in
set_option maxRecDepth 100000 in
theorem c_X7_bid (l : Launch) {D : va_G} {Y : Nat → ClassId} {A : ss_A} (hAD : AD 0 A) {p0 : Int32} {p1 : Int32} {p2 : Int32} {p3 : Int32} {p4 : Int32} {p5 : Int32}  {r : Int32} {σ σ' : ss_M} (hf : f_X7_bid p0 p1 p2 p3 p4 p5 σ = some (r, σ')) : Met l yX7_bid wsX7_bid rm_X7_bid (Pc0 0 D Y A σ [.ref (A 0 6 0), .int p0, .int p1, .int p2, .int p3, .int p4, .int p5]) (Qi0 0 D Y A r σ') 0 0 (FA 0 A) := by
  rw [f_X7_bid] at hf
  refine Met0 (cc := cX7_bid) (maxL := 14) (ret := (some .int)) (own := RX7) (by decide +kernel) rfl hAD rfl (Nat.le_of_ble_eq_true rfl) ?_
  intro p e s m args below meth c S hr hlocks hW ls hl
  obtain ⟨hx, hb, hml, hown, hts⟩ := id S
  have iX7 : ∀ q ∈ wsX70, q ∈ wsX7_bid := fun q h => List.mem_cons_of_mem _ (List.mem_append_left _ (List.mem_append_left _ (List.mem_append_right _ (h))))
  have hl : lv_has ls 14 [(0, .ref (A 0 6 0)), (1, .int p0), (2, .int p1), (3, .int p2), (4, .int p3), (5, .int p4), (6, .int p5)] := hl
  refine lv_iload_n hx hb dX7_bid_0 rfl (lv_at hl 2 rfl) ?_
  refine lv_iconst (v := (0 : Int32)) hx hb dX7_bid_1 (by decide) ?_
  refine lv_bipush (v := (20 : Int32)) hx hb dX7_bid_2 (by decide) ?_
  obtain ⟨r1, σ1, hf1, hf⟩ := ss_bd_some hf
  refine rt_i S (c_X7_isWithin l hAD  hf1) (va_cwS 3 hts gX7_bid_X7_isWithin rfl rfl rfl hd_X7_isWithin ⟨(Nat.le_of_ble_eq_true rfl), (Nat.le_of_ble_eq_true rfl)⟩) hW rfl rfl hl.1 (Nat.le_of_ble_eq_true rfl) ⟨Nat.zero_le _, Nat.zero_le _⟩ dX7_bid_4 (fun H locs hW => ?_)
  have J25 : ∀ (s25_0 : Int32) (σ25_ : ss_M) (H : Heap) (locs : List Loc) (ls : Array Slot), sW 0 D Y A σ25_ s s.heap H locs → lv_has ls 14 [(0, .ref (A 0 6 0)), (1, .int p0), (2, .int p1), (3, .int p2), (4, .int p3), (5, .int p4), (6, .int p5)] → f_X7_bid_j25 p0 p1 p2 p3 p4 p5 s25_0 σ25_ = some (r, σ') → W p l e rm_X7_bid s m args below meth c H locs 0 0 (MQ below (Qi0 0 D Y A r σ') args s 0 0 (FA 0 A)) (F0 m 25 ls [.int s25_0]) := by
    intro s25_0 σ25_ H locs ls hW hl hf
    rw [f_X7_bid_j25] at hf
    refine lv_istore (lv' := [(7, .int s25_0), (0, .ref (A 0 6 0)), (1, .int p0), (2, .int p1), (3, .int p2), (4, .int p3), (5, .int p4), (6, .int p5)]) hx hb dX7_bid_25 hl (by decide) rfl (fun ls hl => ?_)
    refine lv_iload hx hb dX7_bid_27 (lv_at hl 5 rfl) ?_
    refine lv_iconst (v := (0 : Int32)) hx hb dX7_bid_29 (by decide) ?_
    refine lv_bipush (v := (20 : Int32)) hx hb dX7_bid_30 (by decide) ?_
    obtain ⟨r2, σ2, hf2, hf⟩ := ss_bd_some hf
    refine rt_i S (c_X7_isWithin l hAD  hf2) (va_cwS 3 hts gX7_bid_X7_isWithin rfl rfl rfl hd_X7_isWithin ⟨(Nat.le_of_ble_eq_true rfl), (Nat.le_of_ble_eq_true rfl)⟩) hW rfl rfl hl.1 (Nat.le_of_ble_eq_true rfl) ⟨Nat.zero_le _, Nat.zero_le _⟩ dX7_bid_32 (fun H locs hW => ?_)
    have J54 : ∀ (s54_0 : Int32) (σ54_ : ss_M) (H : Heap) (locs : List Loc) (ls : Array Slot), sW 0 D Y A σ54_ s s.heap H locs → lv_has ls 14 [(0, .ref (A 0 6 0)), (1, .int p0), (2, .int p1), (3, .int p2), (4, .int p3), (5, .int p4), (6, .int p5), (7, .int s25_0)] → f_X7_bid_j54 p0 p1 p2 p3 p4 p5 s25_0 s54_0 σ54_ = some (r, σ') → W p l e rm_X7_bid s m args below meth c H locs 0 0 (MQ below (Qi0 0 D Y A r σ') args s 0 0 (FA 0 A)) (F0 m 54 ls [.int s54_0]) := by
      intro s54_0 σ54_ H locs ls hW hl hf
      rw [f_X7_bid_j54] at hf
      refine lv_istore (lv' := [(8, .int s54_0), (0, .ref (A 0 6 0)), (1, .int p0), (2, .int p1), (3, .int p2), (4, .int p3), (5, .int p4), (6, .int p5), (7, .int s25_0)]) hx hb dX7_bid_54 hl (by decide) rfl (fun ls hl => ?_)
      refine lv_iload_n hx hb dX7_bid_56 rfl (lv_at hl 2 rfl) ?_
      obtain ⟨r3, σ3, hf3, hf⟩ := ss_bd_some hf
      refine rt_i S (c_X1_isOne l hAD  hf3) (va_cwS 1 hts gX7_bid_X1_isOne rfl rfl rfl hd_X1_isOne ⟨(Nat.le_of_ble_eq_true rfl), (Nat.le_of_ble_eq_true rfl)⟩) hW rfl rfl hl.1 (Nat.le_of_ble_eq_true rfl) ⟨Nat.zero_le _, Nat.zero_le _⟩ dX7_bid_57 (fun H locs hW => ?_)
      have J83 : ∀ (σ83_ : ss_M) (H : Heap) (locs : List Loc) (ls : Array Slot), sW 0 D Y A σ83_ s s.heap H locs → lv_has ls 14 [(0, .ref (A 0 6 0))] → f_X7_bid_j83 σ83_ = some (r, σ') → W p l e rm_X7_bid s m args below meth c H locs 0 0 (MQ below (Qi0 0 D Y A r σ') args s 0 0 (FA 0 A)) (F0 m 83 ls []) := by
        intro σ83_ H locs ls hW hl hf
        rw [f_X7_bid_j83] at hf
        refine lv_aload_n hx hb dX7_bid_83 rfl (lv_at hl 0 rfl) ?_
        refine lv_bipush (v := (-10 : Int32)) hx hb dX7_bid_84 (by decide) ?_
        obtain ⟨r4, σ4, hf4, hf⟩ := ss_bd_some hf
        refine rv_i S (c_X7_bad l hAD  hf4) (cwV 1 hts gX7_bid_X7_bad rfl rfl rfl hd_X7_bad ⟨(Nat.le_of_ble_eq_true rfl), (Nat.le_of_ble_eq_true rfl)⟩) hW (kS_in (by decide)) rfl rfl rfl hl.1 (Nat.le_of_ble_eq_true rfl) ⟨Nat.zero_le _, Nat.zero_le _⟩ dX7_bid_86 (fun H locs hW => ?_)
        exact re_i hx hb hr hlocks hW (Option.some.inj hf) dX7_bid_89
      refine lv_if_eq (tgt := 83) hx hb dX7_bid_60 (by decide) (fun q5 => ?_) (fun q5 => ?_)
      · rw [if_pos q5] at hf
        exact J83 σ3 _ _ _ hW (lv_sub hl [1] rfl) hf
      · rw [if_neg q5] at hf
        refine lv_iload hx hb dX7_bid_63 (lv_at hl 8 rfl) ?_
        refine lv_if_eq (tgt := 83) hx hb dX7_bid_65 (by decide) (fun q6 => ?_) (fun q6 => ?_)
        · rw [if_pos q6] at hf
          exact J83 σ3 _ _ _ hW (lv_sub hl [1] rfl) hf
        · rw [if_neg q6] at hf
          refine lv_iload hx hb dX7_bid_68 (lv_at hl 0 rfl) ?_
          refine lv_if_eq (tgt := 83) hx hb dX7_bid_70 (by decide) (fun q7 => ?_) (fun q7 => ?_)
          · rw [if_pos q7] at hf
            exact J83 σ3 _ _ _ hW (lv_sub hl [1] rfl) hf
          · rw [if_neg q7] at hf
            refine lv_iload hx hb dX7_bid_73 (lv_at hl 7 rfl) ?_
            refine lv_iconst (v := (0 : Int32)) hx hb dX7_bid_75 (by decide) ?_
            refine lv_iconst (v := (1 : Int32)) hx hb dX7_bid_76 (by decide) ?_
            obtain ⟨r8, σ8, hf8, hf⟩ := ss_bd_some hf
            refine rt_i S (c_X7_isWithin l hAD  hf8) (va_cwS 3 hts gX7_bid_X7_isWithin rfl rfl rfl hd_X7_isWithin ⟨(Nat.le_of_ble_eq_true rfl), (Nat.le_of_ble_eq_true rfl)⟩) hW rfl rfl hl.1 (Nat.le_of_ble_eq_true rfl) ⟨Nat.zero_le _, Nat.zero_le _⟩ dX7_bid_77 (fun H locs hW => ?_)
            refine lv_if_ne (tgt := 90) hx hb dX7_bid_80 (by decide) (fun q9 => ?_) (fun q9 => ?_)
            · rw [if_neg q9] at hf
              refine lv_aload_n hx hb dX7_bid_90 rfl (lv_at hl 1 rfl) ?_
              refine gf_X7_page hx hb hts hown hW (kS_in (by decide)) iX7 (List.mem_of_getElem? (i := 1) rfl) dX7_bid_91 ?_
              refine lv_iload_n hx hb dX7_bid_94 rfl (lv_at hl 2 rfl) ?_
              obtain ⟨r10, σ10, hf10, hf⟩ := ss_bd_some hf
              refine rv_i S (c_X4_costOf l hAD (by decide) hf10) (cwV 1 hts gX7_bid_X4_costOf rfl rfl rfl hd_X4_costOf ⟨(Nat.le_of_ble_eq_true rfl), (Nat.le_of_ble_eq_true rfl)⟩) hW (kS_in (by decide)) rfl rfl rfl hl.1 (Nat.le_of_ble_eq_true rfl) ⟨Nat.zero_le _, Nat.zero_le _⟩ dX7_bid_95 (fun H locs hW => ?_)
              refine lv_istore (lv' := [(9, .int r10), (8, .int s54_0), (0, .ref (A 0 6 0)), (1, .int p0), (2, .int p1), (3, .int p2), (4, .int p3), (5, .int p4), (6, .int p5), (7, .int s25_0)]) hx hb dX7_bid_98 hl (by decide) rfl (fun ls hl => ?_)
              refine lv_iconst (v := (-1 : Int32)) hx hb dX7_bid_100 (by decide) ?_
              refine lv_istore (lv' := [(10, .int (-1 : Int32)), (9, .int r10), (8, .int s54_0), (0, .ref (A 0 6 0)), (1, .int p0), (2, .int p1), (3, .int p2), (4, .int p3), (5, .int p4), (6, .int p5), (7, .int s25_0)]) hx hb dX7_bid_101 hl (by decide) rfl (fun ls hl => ?_)
              refine lv_iconst (v := (0 : Int32)) hx hb dX7_bid_103 (by decide) ?_
              refine lv_istore (lv' := [(11, .int (0 : Int32)), (10, .int (-1 : Int32)), (9, .int r10), (8, .int s54_0), (0, .ref (A 0 6 0)), (1, .int p0), (2, .int p1), (3, .int p2), (4, .int p3), (5, .int p4), (6, .int p5), (7, .int s25_0)]) hx hb dX7_bid_104 hl (by decide) rfl (fun ls hl => ?_)
              refine lv_iconst (v := (0 : Int32)) hx hb dX7_bid_106 (by decide) ?_
              refine lv_istore (lv' := [(12, .int (0 : Int32)), (11, .int (0 : Int32)), (10, .int (-1 : Int32)), (9, .int r10), (8, .int s54_0), (0, .ref (A 0 6 0)), (1, .int p0), (2, .int p1), (3, .int p2), (4, .int p3), (5, .int p4), (6, .int p5), (7, .int s25_0)]) hx hb dX7_bid_107 hl (by decide) rfl (fun ls hl => ?_)
              have J189 : ∀ (x189_10 : Int32) (x189_11 : Int32) (σ189_ : ss_M) (H : Heap) (locs : List Loc) (ls : Array Slot), sW 0 D Y A σ189_ s s.heap H locs → lv_has ls 14 [(6, .int p5), (10, .int x189_10), (11, .int x189_11)] → f_X7_bid_j189 p5 x189_10 x189_11 σ189_ = some (r, σ') → W p l e rm_X7_bid s m args below meth c H locs 0 0 (MQ below (Qi0 0 D Y A r σ') args s 0 0 (FA 0 A)) (F0 m 189 ls []) := by
                intro x189_10 x189_11 σ189_ H locs ls hW hl hf
                rw [f_X7_bid_j189] at hf
                refine lv_iload hx hb dX7_bid_189 (lv_at hl 0 rfl) ?_
                refine lv_if_ne (tgt := 199) hx hb dX7_bid_191 (by decide) (fun q11 => ?_) (fun q11 => ?_)
                · rw [if_neg q11] at hf
                  refine lv_iload hx hb dX7_bid_199 (lv_at hl 1 rfl) ?_
                  exact re_i hx hb hr hlocks hW (Option.some.inj hf) dX7_bid_201
                · rw [if_pos q11] at hf
                  refine lv_iload hx hb dX7_bid_194 (lv_at hl 2 rfl) ?_
                  refine lv_goto (tgt := 201) hx hb dX7_bid_196 (by decide) ?_
                  exact re_i hx hb hr hlocks hW (Option.some.inj hf) dX7_bid_201
              have L109 : ∀ (n109 : Nat), ∀ (x109_10 : Int32) (x109_11 : Int32) (x109_12 : Int32) (σ109_ : ss_M) (H : Heap) (locs : List Loc) (ls : Array Slot), sW 0 D Y A σ109_ s s.heap H locs → lv_has ls 14 [(2, .int p1), (3, .int p2), (4, .int p3), (5, .int p4), (6, .int p5), (9, .int r10), (10, .int x109_10), (11, .int x109_11), (12, .int x109_12)] → f_X7_bid_L109 p1 p2 p3 p4 r10 (f_X7_bid_j189 p5) n109 x109_10 x109_11 x109_12 σ109_ = some (r, σ') → W p l e rm_X7_bid s m args below meth c H locs 0 0 (MQ below (Qi0 0 D Y A r σ') args s 0 0 (FA 0 A)) (F0 m 109 ls []) := by
                intro n109
                induction n109 with
                | zero =>
                  intro x109_10 x109_11 x109_12 σ109_ H locs ls hW hl hf
                  rw [f_X7_bid_L109] at hf
                  cases hf
                | succ n109 ih109 =>
                  intro x109_10 x109_11 x109_12 σ109_ H locs ls hW hl hf
                  rw [f_X7_bid_L109] at hf
                  refine lv_iload hx hb dX7_bid_109 (lv_at hl 8 rfl) ?_
                  refine lv_iload_n hx hb dX7_bid_111 rfl (lv_at hl 0 rfl) ?_
                  refine lv_icmp_gt (tgt := 189) hx hb dX7_bid_112 (by decide) (fun q12 => ?_) (fun q12 => ?_)
                  · rw [if_pos q12] at hf
                    exact J189 x109_10 x109_11 σ109_ _ _ _ hW (lv_sub hl [4, 6, 7] rfl) hf
                  · rw [if_neg q12] at hf
                    refine lv_iconst (v := (0 : Int32)) hx hb dX7_bid_115 (by decide) ?_
                    refine lv_istore (lv' := [(13, .int (0 : Int32)), (2, .int p1), (3, .int p2), (4, .int p3), (5, .int p4), (6, .int p5), (9, .int r10), (10, .int x109_10), (11, .int x109_11), (12, .int x109_12)]) hx hb dX7_bid_116 hl (by decide) rfl (fun ls hl => ?_)
                    have J183 : ∀ (x183_10 : Int32) (x183_11 : Int32) (σ183_ : ss_M) (H : Heap) (locs : List Loc) (ls : Array Slot), sW 0 D Y A σ183_ s s.heap H locs → lv_has ls 14 [(2, .int p1), (3, .int p2), (4, .int p3), (5, .int p4), (6, .int p5), (9, .int r10), (10, .int x183_10), (11, .int x183_11), (12, .int x109_12)] → f_X7_bid_j183 x109_12 (f_X7_bid_L109 p1 p2 p3 p4 r10 (f_X7_bid_j189 p5) n109) x183_10 x183_11 σ183_ = some (r, σ') → W p l e rm_X7_bid s m args below meth c H locs 0 0 (MQ below (Qi0 0 D Y A r σ') args s 0 0 (FA 0 A)) (F0 m 183 ls []) := by
                      intro x183_10 x183_11 σ183_ H locs ls hW hl hf
                      rw [f_X7_bid_j183] at hf
                      refine lv_iinc (v := (x109_12 + (1 : Int32))) (lv' := [(12, .int (x109_12 + (1 : Int32))), (2, .int p1), (3, .int p2), (4, .int p3), (5, .int p4), (6, .int p5), (9, .int r10), (10, .int x183_10), (11, .int x183_11)]) hx hb dX7_bid_183 hl (k := 8) rfl rfl (by decide) rfl (fun ls hl => ?_)
                      refine lv_goto (tgt := 109) hx hb dX7_bid_186 (by decide) ?_
                      exact ih109 x183_10 x183_11 (x109_12 + (1 : Int32)) σ183_ _ _ _ hW (lv_sub hl [1, 2, 3, 4, 5, 6, 7, 8, 0] rfl) hf
                    have L118 : ∀ (n118 : Nat), ∀ (x118_10 : Int32) (x118_11 : Int32) (x118_13 : Int32) (σ118_ : ss_M) (H : Heap) (locs : List Loc) (ls : Array Slot), sW 0 D Y A σ118_ s s.heap H locs → lv_has ls 14 [(2, .int p1), (3, .int p2), (4, .int p3), (5, .int p4), (6, .int p5), (9, .int r10), (10, .int x118_10), (11, .int x118_11), (12, .int x109_12), (13, .int x118_13)] → f_X7_bid_L118 p1 p2 p3 p4 r10 x109_12 (f_X7_bid_j183 x109_12 (f_X7_bid_L109 p1 p2 p3 p4 r10 (f_X7_bid_j189 p5) n109)) n118 x118_10 x118_11 x118_13 σ118_ = some (r, σ') → W p l e rm_X7_bid s m args below meth c H locs 0 0 (MQ below (Qi0 0 D Y A r σ') args s 0 0 (FA 0 A)) (F0 m 118 ls []) := by
                      intro n118
                      induction n118 with
                      | zero =>
                        intro x118_10 x118_11 x118_13 σ118_ H locs ls hW hl hf
                        rw [f_X7_bid_L118] at hf
                        cases hf
                      | succ n118 ih118 =>
                        intro x118_10 x118_11 x118_13 σ118_ H locs ls hW hl hf
                        rw [f_X7_bid_L118] at hf
                        refine lv_iload hx hb dX7_bid_118 (lv_at hl 9 rfl) ?_
                        refine lv_iload_n hx hb dX7_bid_120 rfl (lv_at hl 1 rfl) ?_
                        refine lv_icmp_gt (tgt := 183) hx hb dX7_bid_121 (by decide) (fun q13 => ?_) (fun q13 => ?_)
                        · rw [if_pos q13] at hf
                          exact J183 x118_10 x118_11 σ118_ _ _ _ hW (lv_sub hl [0, 1, 2, 3, 4, 5, 6, 7, 8] rfl) hf
                        · rw [if_neg q13] at hf
                          refine lv_iload hx hb dX7_bid_124 (lv_at hl 8 rfl) ?_
                          refine lv_iload_n hx hb dX7_bid_126 rfl (lv_at hl 0 rfl) ?_
                          refine lv_iload hx hb dX7_bid_127 (lv_at hl 9 rfl) ?_
                          refine lv_iload hx hb dX7_bid_129 (lv_at hl 2 rfl) ?_
                          refine lv_iload hx hb dX7_bid_131 (lv_at hl 5 rfl) ?_
                          obtain ⟨r14, σ14, hf14, hf⟩ := ss_bd_some hf
                          refine rt_i S (c_X7_isBest l hAD  hf14) (va_cwS 5 hts gX7_bid_X7_isBest rfl rfl rfl hd_X7_isBest ⟨(Nat.le_of_ble_eq_true rfl), (Nat.le_of_ble_eq_true rfl)⟩) hW rfl rfl hl.1 (Nat.le_of_ble_eq_true rfl) ⟨Nat.zero_le _, Nat.zero_le _⟩ dX7_bid_133 (fun H locs hW => ?_)
                          have J177 : ∀ (x177_10 : Int32) (x177_11 : Int32) (σ177_ : ss_M) (H : Heap) (locs : List Loc) (ls : Array Slot), sW 0 D Y A σ177_ s s.heap H locs → lv_has ls 14 [(2, .int p1), (3, .int p2), (4, .int p3), (5, .int p4), (6, .int p5), (9, .int r10), (10, .int x177_10), (11, .int x177_11), (12, .int x109_12), (13, .int x118_13)] → f_X7_bid_j177 x118_13 (f_X7_bid_L118 p1 p2 p3 p4 r10 x109_12 (f_X7_bid_j183 x109_12 (f_X7_bid_L109 p1 p2 p3 p4 r10 (f_X7_bid_j189 p5) n109)) n118) x177_10 x177_11 σ177_ = some (r, σ') → W p l e rm_X7_bid s m args below meth c H locs 0 0 (MQ below (Qi0 0 D Y A r σ') args s 0 0 (FA 0 A)) (F0 m 177 ls []) := by
                            intro x177_10 x177_11 σ177_ H locs ls hW hl hf
                            rw [f_X7_bid_j177] at hf
                            refine lv_iinc (v := (x118_13 + (1 : Int32))) (lv' := [(13, .int (x118_13 + (1 : Int32))), (2, .int p1), (3, .int p2), (4, .int p3), (5, .int p4), (6, .int p5), (9, .int r10), (10, .int x177_10), (11, .int x177_11), (12, .int x109_12)]) hx hb dX7_bid_177 hl (k := 9) rfl rfl (by decide) rfl (fun ls hl => ?_)
                            refine lv_goto (tgt := 118) hx hb dX7_bid_180 (by decide) ?_
                            exact ih118 x177_10 x177_11 (x118_13 + (1 : Int32)) σ177_ _ _ _ hW (lv_sub hl [1, 2, 3, 4, 5, 6, 7, 8, 9, 0] rfl) hf
                          refine lv_if_eq (tgt := 177) hx hb dX7_bid_136 (by decide) (fun q15 => ?_) (fun q15 => ?_)
                          · rw [if_pos q15] at hf
                            exact J177 x118_10 x118_11 σ14 _ _ _ hW (lv_sub hl [0, 1, 2, 3, 4, 5, 6, 7, 8, 9] rfl) hf
                          · rw [if_neg q15] at hf
                            refine lv_iload hx hb dX7_bid_139 (lv_at hl 9 rfl) ?_
                            refine lv_iload_n hx hb dX7_bid_141 rfl (lv_at hl 1 rfl) ?_
                            refine lv_iload hx hb dX7_bid_142 (lv_at hl 8 rfl) ?_
                            refine lv_iload hx hb dX7_bid_144 (lv_at hl 3 rfl) ?_
                            refine lv_iload hx hb dX7_bid_146 (lv_at hl 5 rfl) ?_
                            obtain ⟨r16, σ16, hf16, hf⟩ := ss_bd_some hf
                            refine rt_i S (c_X7_isBest l hAD  hf16) (va_cwS 5 hts gX7_bid_X7_isBest rfl rfl rfl hd_X7_isBest ⟨(Nat.le_of_ble_eq_true rfl), (Nat.le_of_ble_eq_true rfl)⟩) hW rfl rfl hl.1 (Nat.le_of_ble_eq_true rfl) ⟨Nat.zero_le _, Nat.zero_le _⟩ dX7_bid_148 (fun H locs hW => ?_)
                            refine lv_if_eq (tgt := 177) hx hb dX7_bid_151 (by decide) (fun q17 => ?_) (fun q17 => ?_)
                            · rw [if_pos q17] at hf
                              exact J177 x118_10 x118_11 σ16 _ _ _ hW (lv_sub hl [0, 1, 2, 3, 4, 5, 6, 7, 8, 9] rfl) hf
                            · rw [if_neg q17] at hf
                              refine lv_iload hx hb dX7_bid_154 (lv_at hl 7 rfl) ?_
                              have J172 : ∀ (s172_0 : Int32) (σ172_ : ss_M) (H : Heap) (locs : List Loc) (ls : Array Slot), sW 0 D Y A σ172_ s s.heap H locs → lv_has ls 14 [(2, .int p1), (3, .int p2), (4, .int p3), (5, .int p4), (6, .int p5), (9, .int r10), (11, .int x118_11), (12, .int x109_12), (13, .int x118_13)] → f_X7_bid_j172 x118_11 x118_13 (f_X7_bid_L118 p1 p2 p3 p4 r10 x109_12 (f_X7_bid_j183 x109_12 (f_X7_bid_L109 p1 p2 p3 p4 r10 (f_X7_bid_j189 p5) n109)) n118) s172_0 σ172_ = some (r, σ') → W p l e rm_X7_bid s m args below meth c H locs 0 0 (MQ below (Qi0 0 D Y A r σ') args s 0 0 (FA 0 A)) (F0 m 172 ls [.int s172_0]) := by
                                intro s172_0 σ172_ H locs ls hW hl hf
                                rw [f_X7_bid_j172] at hf
                                refine lv_istore (lv' := [(10, .int s172_0), (2, .int p1), (3, .int p2), (4, .int p3), (5, .int p4), (6, .int p5), (9, .int r10), (11, .int x118_11), (12, .int x109_12), (13, .int x118_13)]) hx hb dX7_bid_172 hl (by decide) rfl (fun ls hl => ?_)
                                refine lv_iinc (v := (x118_11 + (1 : Int32))) (lv' := [(11, .int (x118_11 + (1 : Int32))), (10, .int s172_0), (2, .int p1), (3, .int p2), (4, .int p3), (5, .int p4), (6, .int p5), (9, .int r10), (12, .int x109_12), (13, .int x118_13)]) hx hb dX7_bid_174 hl (k := 7) rfl rfl (by decide) rfl (fun ls hl => ?_)
                                exact J177 s172_0 (x118_11 + (1 : Int32)) σ172_ _ _ _ hW (lv_sub hl [2, 3, 4, 5, 6, 7, 1, 0, 8, 9] rfl) hf
                              refine lv_if_ne (tgt := 170) hx hb dX7_bid_156 (by decide) (fun q18 => ?_) (fun q18 => ?_)
                              · rw [if_neg q18] at hf
                                refine lv_iload hx hb dX7_bid_170 (lv_at hl 6 rfl) ?_
                                exact J172 x118_10 σ16 _ _ _ hW (lv_sub hl [0, 1, 2, 3, 4, 5, 7, 8, 9] rfl) hf
                              · rw [if_pos q18] at hf
                                refine lv_bipush (v := (100 : Int32)) hx hb dX7_bid_159 (by decide) ?_
                                refine lv_iload hx hb dX7_bid_161 (lv_at hl 8 rfl) ?_
                                refine lv_imul hx hb dX7_bid_163 ?_
                                refine lv_iload hx hb dX7_bid_164 (lv_at hl 9 rfl) ?_
                                refine lv_iadd hx hb dX7_bid_166 ?_
                                refine lv_goto (tgt := 172) hx hb dX7_bid_167 (by decide) ?_
                                exact J172 (((100 : Int32) * x109_12) + x118_13) σ16 _ _ _ hW (lv_sub hl [0, 1, 2, 3, 4, 5, 7, 8, 9] rfl) hf
                    exact L118 FU x109_10 x109_11 (0 : Int32) σ109_ _ _ _ hW (lv_sub hl [1, 2, 3, 4, 5, 6, 7, 8, 9, 0] rfl) hf
              exact L109 FU (-1 : Int32) (0 : Int32) (0 : Int32) σ10 _ _ _ hW (lv_sub hl [7, 8, 9, 10, 11, 3, 2, 1, 0] rfl) hf
            · rw [if_pos q9] at hf
              exact J83 σ8 _ _ _ hW (lv_sub hl [1] rfl) hf
    have J53 : ∀ (σ53_ : ss_M) (H : Heap) (locs : List Loc) (ls : Array Slot), sW 0 D Y A σ53_ s s.heap H locs → lv_has ls 14 [(0, .ref (A 0 6 0)), (1, .int p0), (2, .int p1), (3, .int p2), (4, .int p3), (5, .int p4), (6, .int p5), (7, .int s25_0)] → f_X7_bid_j53 p0 p1 p2 p3 p4 p5 s25_0 σ53_ = some (r, σ') → W p l e rm_X7_bid s m args below meth c H locs 0 0 (MQ below (Qi0 0 D Y A r σ') args s 0 0 (FA 0 A)) (F0 m 53 ls []) := by
      intro σ53_ H locs ls hW hl hf
      rw [f_X7_bid_j53] at hf
      refine lv_iconst (v := (0 : Int32)) hx hb dX7_bid_53 (by decide) ?_
      exact J54 (0 : Int32) σ53_ _ _ _ hW (lv_sub hl [0, 1, 2, 3, 4, 5, 6, 7] rfl) hf
    refine lv_if_eq (tgt := 53) hx hb dX7_bid_35 (by decide) (fun q19 => ?_) (fun q19 => ?_)
    · rw [if_pos q19] at hf
      exact J53 σ2 _ _ _ hW (lv_sub hl [1, 2, 3, 4, 5, 6, 7, 0] rfl) hf
    · rw [if_neg q19] at hf
      refine lv_iload hx hb dX7_bid_38 (lv_at hl 6 rfl) ?_
      refine lv_iconst (v := (0 : Int32)) hx hb dX7_bid_40 (by decide) ?_
      refine lv_bipush (v := (20 : Int32)) hx hb dX7_bid_41 (by decide) ?_
      obtain ⟨r20, σ20, hf20, hf⟩ := ss_bd_some hf
      refine rt_i S (c_X7_isWithin l hAD  hf20) (va_cwS 3 hts gX7_bid_X7_isWithin rfl rfl rfl hd_X7_isWithin ⟨(Nat.le_of_ble_eq_true rfl), (Nat.le_of_ble_eq_true rfl)⟩) hW rfl rfl hl.1 (Nat.le_of_ble_eq_true rfl) ⟨Nat.zero_le _, Nat.zero_le _⟩ dX7_bid_43 (fun H locs hW => ?_)
      refine lv_if_eq (tgt := 53) hx hb dX7_bid_46 (by decide) (fun q21 => ?_) (fun q21 => ?_)
      · rw [if_pos q21] at hf
        exact J53 σ20 _ _ _ hW (lv_sub hl [1, 2, 3, 4, 5, 6, 7, 0] rfl) hf
      · rw [if_neg q21] at hf
        refine lv_iconst (v := (1 : Int32)) hx hb dX7_bid_49 (by decide) ?_
        refine lv_goto (tgt := 54) hx hb dX7_bid_50 (by decide) ?_
        exact J54 (1 : Int32) σ20 _ _ _ hW (lv_sub hl [1, 2, 3, 4, 5, 6, 7, 0] rfl) hf
  have J24 : ∀ (σ24_ : ss_M) (H : Heap) (locs : List Loc) (ls : Array Slot), sW 0 D Y A σ24_ s s.heap H locs → lv_has ls 14 [(0, .ref (A 0 6 0)), (1, .int p0), (2, .int p1), (3, .int p2), (4, .int p3), (5, .int p4), (6, .int p5)] → f_X7_bid_j24 p0 p1 p2 p3 p4 p5 σ24_ = some (r, σ') → W p l e rm_X7_bid s m args below meth c H locs 0 0 (MQ below (Qi0 0 D Y A r σ') args s 0 0 (FA 0 A)) (F0 m 24 ls []) := by
    intro σ24_ H locs ls hW hl hf
    rw [f_X7_bid_j24] at hf
    refine lv_iconst (v := (0 : Int32)) hx hb dX7_bid_24 (by decide) ?_
    exact J25 (0 : Int32) σ24_ _ _ _ hW (lv_sub hl [0, 1, 2, 3, 4, 5, 6] rfl) hf
  refine lv_if_eq (tgt := 24) hx hb dX7_bid_7 (by decide) (fun q22 => ?_) (fun q22 => ?_)
  · rw [if_pos q22] at hf
    exact J24 σ1 _ _ _ hW (lv_sub hl [0, 1, 2, 3, 4, 5, 6] rfl) hf
  · rw [if_neg q22] at hf
    refine lv_iload_n hx hb dX7_bid_10 rfl (lv_at hl 3 rfl) ?_
    refine lv_iconst (v := (0 : Int32)) hx hb dX7_bid_11 (by decide) ?_
    refine lv_bipush (v := (20 : Int32)) hx hb dX7_bid_12 (by decide) ?_
    obtain ⟨r23, σ23, hf23, hf⟩ := ss_bd_some hf
    refine rt_i S (c_X7_isWithin l hAD  hf23) (va_cwS 3 hts gX7_bid_X7_isWithin rfl rfl rfl hd_X7_isWithin ⟨(Nat.le_of_ble_eq_true rfl), (Nat.le_of_ble_eq_true rfl)⟩) hW rfl rfl hl.1 (Nat.le_of_ble_eq_true rfl) ⟨Nat.zero_le _, Nat.zero_le _⟩ dX7_bid_14 (fun H locs hW => ?_)
    refine lv_if_eq (tgt := 24) hx hb dX7_bid_17 (by decide) (fun q24 => ?_) (fun q24 => ?_)
    · rw [if_pos q24] at hf
      exact J24 σ23 _ _ _ hW (lv_sub hl [0, 1, 2, 3, 4, 5, 6] rfl) hf
    · rw [if_neg q24] at hf
      refine lv_iconst (v := (1 : Int32)) hx hb dX7_bid_20 (by decide) ?_
      refine lv_goto (tgt := 25) hx hb dX7_bid_21 (by decide) ?_
      exact J25 (1 : Int32) σ23 _ _ _ hW (lv_sub hl [0, 1, 2, 3, 4, 5, 6] rfl) hf
def f_X7_odds (p0 : Int32) (σ : ss_M) : Option (Int32 × ss_M) :=
  ss_bd (f_X7_isWithin p0 (0 : Int32) (10 : Int32) σ) (fun r1 σ1 => if r1 = (0 : Int32) then (ss_bd (f_X7_bad (-2 : Int32) σ1) (fun r4 σ4 => some (r4, σ4))) else (Option.bind (f_X0_reckon 0 p0 σ1) (fun σ3 => some ((1 : Int32), σ3))))
def rm_X7_odds : Room := { frames := 8, cells := 0, slots := 0, locals := 400 }
theorem hd_X7_odds : yX7_odds.cls = RX7 ∧ yX7_odds.cls ≠ "java/lang/invoke/MethodHandle" ∧ yX7_odds.cls ≠ "java/lang/invoke/VarHandle" ∧ (parseMethodDescriptor yX7_odds.desc).map (fun d => d.parameters.length) = some 1 := by decide +kernel
set_option maxHeartbeats 4000000 in
set_option maxRecDepth 100000 in
theorem c_X7_odds (l : Launch) {D : va_G} {Y : Nat → ClassId} {A : ss_A} (hAD : AD 0 A) {p0 : Int32}  {r : Int32} {σ σ' : ss_M} (hf : f_X7_odds p0 σ = some (r, σ')) : Met l yX7_odds wsX7_odds rm_X7_odds (Pc0 0 D Y A σ [.ref (A 0 6 0), .int p0]) (Qi0 0 D Y A r σ') 0 0 (FA 0 A) := by
  rw [f_X7_odds] at hf
  refine Met0 (cc := cX7_odds) (maxL := 2) (ret := (some .int)) (own := RX7) (by decide +kernel) rfl hAD rfl (Nat.le_of_ble_eq_true rfl) ?_
  intro p e s m args below meth c S hr hlocks hW ls hl
  obtain ⟨hx, hb, hml, hown, hts⟩ := id S
  have iX7 : ∀ q ∈ wsX70, q ∈ wsX7_odds := fun q h => List.mem_cons_of_mem _ (List.mem_append_left _ (List.mem_append_left _ (List.mem_append_left _ (List.mem_append_right _ (h)))))
  have hl : lv_has ls 2 [(0, .ref (A 0 6 0)), (1, .int p0)] := hl
  refine lv_iload_n hx hb dX7_odds_0 rfl (lv_at hl 1 rfl) ?_
  refine lv_iconst (v := (0 : Int32)) hx hb dX7_odds_1 (by decide) ?_
  refine lv_bipush (v := (10 : Int32)) hx hb dX7_odds_2 (by decide) ?_
  obtain ⟨r1, σ1, hf1, hf⟩ := ss_bd_some hf
  refine rt_i S (c_X7_isWithin l hAD  hf1) (va_cwS 3 hts gX7_odds_X7_isWithin rfl rfl rfl hd_X7_isWithin ⟨(Nat.le_of_ble_eq_true rfl), (Nat.le_of_ble_eq_true rfl)⟩) hW rfl rfl hl.1 (Nat.le_of_ble_eq_true rfl) ⟨Nat.zero_le _, Nat.zero_le _⟩ dX7_odds_4 (fun H locs hW => ?_)
  refine lv_if_ne (tgt := 17) hx hb dX7_odds_7 (by decide) (fun q2 => ?_) (fun q2 => ?_)
  · rw [if_neg q2] at hf
    refine lv_aload_n hx hb dX7_odds_17 rfl (lv_at hl 0 rfl) ?_
    refine gf_X7_chance hx hb hts hown hW (kS_in (by decide)) iX7 (List.mem_of_getElem? (i := 1) rfl) dX7_odds_18 ?_
    refine lv_aload_n hx hb dX7_odds_21 rfl (lv_at hl 0 rfl) ?_
    refine gf_X7_page hx hb hts hown hW (kS_in (by decide)) iX7 (List.mem_of_getElem? (i := 2) rfl) dX7_odds_22 ?_
    refine lv_iload_n hx hb dX7_odds_25 rfl (lv_at hl 1 rfl) ?_
    obtain ⟨σ3, hf3, hf⟩ := ss_bind hf
    refine rv_v S (c_X0_reckon l hAD (by decide) hf3) (cwV 2 hts gX7_odds_X0_reckon rfl rfl rfl hd_X0_reckon ⟨(Nat.le_of_ble_eq_true rfl), (Nat.le_of_ble_eq_true rfl)⟩) hW (kS_in (by decide)) rfl rfl rfl hl.1 (Nat.le_of_ble_eq_true rfl) ⟨Nat.zero_le _, Nat.zero_le _⟩ dX7_odds_26 (fun H locs hW => ?_)
    refine lv_iconst (v := (1 : Int32)) hx hb dX7_odds_29 (by decide) ?_
    exact re_i hx hb hr hlocks hW (Option.some.inj hf) dX7_odds_30
  · rw [if_pos q2] at hf
    refine lv_aload_n hx hb dX7_odds_10 rfl (lv_at hl 0 rfl) ?_
    refine lv_bipush (v := (-2 : Int32)) hx hb dX7_odds_11 (by decide) ?_
    obtain ⟨r4, σ4, hf4, hf⟩ := ss_bd_some hf
    refine rv_i S (c_X7_bad l hAD  hf4) (cwV 1 hts gX7_odds_X7_bad rfl rfl rfl hd_X7_bad ⟨(Nat.le_of_ble_eq_true rfl), (Nat.le_of_ble_eq_true rfl)⟩) hW (kS_in (by decide)) rfl rfl rfl hl.1 (Nat.le_of_ble_eq_true rfl) ⟨Nat.zero_le _, Nat.zero_le _⟩ dX7_odds_13 (fun H locs hW => ?_)
    exact re_i hx hb hr hlocks hW (Option.some.inj hf) dX7_odds_16
