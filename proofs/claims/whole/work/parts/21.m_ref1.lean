def f_X8_costs (p0 : Int32) (σ : ss_M) : Option (Int32 × ss_M) :=
  ss_bd (f_X8_isKind p0 σ) (fun r1 σ1 => if r1 = (0 : Int32) then (ss_bd (f_X8_bad σ1) (fun r3 σ3 => some (r3, σ3))) else (ss_bd (f_X8_costOf p0 σ1) (fun r4 σ4 => some (r4, σ4))))
def rm_X8_costs : Room := { frames := 4, cells := 0, slots := 0, locals := 200 }
theorem hd_X8_costs : yX8_costs.cls = RX8 ∧ yX8_costs.cls ≠ "java/lang/invoke/MethodHandle" ∧ yX8_costs.cls ≠ "java/lang/invoke/VarHandle" ∧ (parseMethodDescriptor yX8_costs.desc).map (fun d => d.parameters.length) = some 1 := by decide +kernel
set_option maxHeartbeats 4000000 in
set_option maxRecDepth 100000 in
theorem c_X8_costs (l : Launch) {D : va_G} {Y : Nat → ClassId} {A : ss_A} (hAD : AD 1 A) {p0 : Int32}  {r : Int32} {σ σ' : ss_M} (hf : f_X8_costs p0 σ = some (r, σ')) : Met l yX8_costs wsX8_costs rm_X8_costs (Pc0 1 D Y A σ [.ref (A 0 7 0), .int p0]) (Qi0 1 D Y A r σ') 0 0 (FA 1 A) := by
  rw [f_X8_costs] at hf
  refine Met0 (cc := cX8_costs) (maxL := 2) (ret := (some .int)) (own := RX8) (by decide +kernel) rfl hAD rfl (Nat.le_of_ble_eq_true rfl) ?_
  intro p e s m args below meth c S hr hlocks hW ls hl
  obtain ⟨hx, hb, hml, hown, hts⟩ := id S
  have hl : lv_has ls 2 [(0, .ref (A 0 7 0)), (1, .int p0)] := hl
  refine lv_iload_n hx hb dX8_costs_0 rfl (lv_at hl 1 rfl) ?_
  obtain ⟨r1, σ1, hf1, hf⟩ := ss_bd_some hf
  refine rt_i S (c_X8_isKind l hAD  hf1) (va_cwS 1 hts gX8_costs_X8_isKind rfl rfl rfl hd_X8_isKind ⟨(Nat.le_of_ble_eq_true rfl), (Nat.le_of_ble_eq_true rfl)⟩) hW rfl rfl hl.1 (Nat.le_of_ble_eq_true rfl) ⟨Nat.zero_le _, Nat.zero_le _⟩ dX8_costs_1 (fun H locs hW => ?_)
  refine lv_if_eq (tgt := 15) hx hb dX8_costs_4 (by decide) (fun q2 => ?_) (fun q2 => ?_)
  · rw [if_pos q2] at hf
    refine lv_aload_n hx hb dX8_costs_15 rfl (lv_at hl 0 rfl) ?_
    obtain ⟨r3, σ3, hf3, hf⟩ := ss_bd_some hf
    refine rv_i S (c_X8_bad l hAD  hf3) (cwV 0 hts gX8_costs_X8_bad rfl rfl rfl hd_X8_bad ⟨(Nat.le_of_ble_eq_true rfl), (Nat.le_of_ble_eq_true rfl)⟩) hW (kS_in (by decide)) rfl rfl rfl hl.1 (Nat.le_of_ble_eq_true rfl) ⟨Nat.zero_le _, Nat.zero_le _⟩ dX8_costs_16 (fun H locs hW => ?_)
    exact re_i hx hb hr hlocks hW (Option.some.inj hf) dX8_costs_19
  · rw [if_neg q2] at hf
    refine lv_aload_n hx hb dX8_costs_7 rfl (lv_at hl 0 rfl) ?_
    refine lv_iload_n hx hb dX8_costs_8 rfl (lv_at hl 1 rfl) ?_
    obtain ⟨r4, σ4, hf4, hf⟩ := ss_bd_some hf
    refine rv_i S (c_X8_costOf l hAD  hf4) (cwV 1 hts gX8_costs_X8_costOf rfl rfl rfl hd_X8_costOf ⟨(Nat.le_of_ble_eq_true rfl), (Nat.le_of_ble_eq_true rfl)⟩) hW (kS_in (by decide)) rfl rfl rfl hl.1 (Nat.le_of_ble_eq_true rfl) ⟨Nat.zero_le _, Nat.zero_le _⟩ dX8_costs_9 (fun H locs hW => ?_)
    refine lv_goto (tgt := 19) hx hb dX8_costs_12 (by decide) ?_
    exact re_i hx hb hr hlocks hW (Option.some.inj hf) dX8_costs_19
def f_X8_gives_j31 (σ31_ : ss_M) : Option (Int32 × ss_M) :=
  ss_bd (f_X8_bad σ31_) (fun r2 σ2 => some (r2, σ2))
def f_X8_gives (p0 : Int32) (p1 : Int32) (σ : ss_M) : Option (Int32 × ss_M) :=
  ss_bd (f_X8_isKind p0 σ) (fun r1 σ1 => if r1 = (0 : Int32) then (f_X8_gives_j31 σ1) else (ss_bd (f_X8_in p1 (0 : Int32) (sG σ1 18 0) σ1) (fun r4 σ4 => if r4 = (0 : Int32) then (f_X8_gives_j31 σ4) else (ss_bd (f_X8_givenBy p0 p1 (sG σ4 18 0) σ4) (fun r6 σ6 => some (r6, σ6))))))
def rm_X8_gives : Room := { frames := 4, cells := 0, slots := 0, locals := 200 }
theorem hd_X8_gives : yX8_gives.cls = RX8 ∧ yX8_gives.cls ≠ "java/lang/invoke/MethodHandle" ∧ yX8_gives.cls ≠ "java/lang/invoke/VarHandle" ∧ (parseMethodDescriptor yX8_gives.desc).map (fun d => d.parameters.length) = some 2 := by decide +kernel
set_option maxHeartbeats 4000000 in
set_option maxRecDepth 100000 in
theorem c_X8_gives (l : Launch) {D : va_G} {Y : Nat → ClassId} {A : ss_A} (hAD : AD 1 A) {p0 : Int32} {p1 : Int32}  {r : Int32} {σ σ' : ss_M} (hf : f_X8_gives p0 p1 σ = some (r, σ')) : Met l yX8_gives wsX8_gives rm_X8_gives (Pc0 1 D Y A σ [.ref (A 0 7 0), .int p0, .int p1]) (Qi0 1 D Y A r σ') 0 0 (FA 1 A) := by
  rw [f_X8_gives] at hf
  refine Met0 (cc := cX8_gives) (maxL := 3) (ret := (some .int)) (own := RX8) (by decide +kernel) rfl hAD rfl (Nat.le_of_ble_eq_true rfl) ?_
  intro p e s m args below meth c S hr hlocks hW ls hl
  obtain ⟨hx, hb, hml, hown, hts⟩ := id S
  have iX8 : ∀ q ∈ wsX80, q ∈ wsX8_gives := fun q h => List.mem_cons_of_mem _ (List.mem_append_right _ (h))
  have hl : lv_has ls 3 [(0, .ref (A 0 7 0)), (1, .int p0), (2, .int p1)] := hl
  refine lv_iload_n hx hb dX8_gives_0 rfl (lv_at hl 1 rfl) ?_
  obtain ⟨r1, σ1, hf1, hf⟩ := ss_bd_some hf
  refine rt_i S (c_X8_isKind l hAD  hf1) (va_cwS 1 hts gX8_gives_X8_isKind rfl rfl rfl hd_X8_isKind ⟨(Nat.le_of_ble_eq_true rfl), (Nat.le_of_ble_eq_true rfl)⟩) hW rfl rfl hl.1 (Nat.le_of_ble_eq_true rfl) ⟨Nat.zero_le _, Nat.zero_le _⟩ dX8_gives_1 (fun H locs hW => ?_)
  have J31 : ∀ (σ31_ : ss_M) (H : Heap) (locs : List Loc) (ls : Array Slot), sW 1 D Y A σ31_ s s.heap H locs → lv_has ls 3 [(0, .ref (A 0 7 0))] → f_X8_gives_j31 σ31_ = some (r, σ') → W p l e rm_X8_gives s m args below meth c H locs 0 0 (MQ below (Qi0 1 D Y A r σ') args s 0 0 (FA 1 A)) (F0 m 31 ls []) := by
    intro σ31_ H locs ls hW hl hf
    rw [f_X8_gives_j31] at hf
    refine lv_aload_n hx hb dX8_gives_31 rfl (lv_at hl 0 rfl) ?_
    obtain ⟨r2, σ2, hf2, hf⟩ := ss_bd_some hf
    refine rv_i S (c_X8_bad l hAD  hf2) (cwV 0 hts gX8_gives_X8_bad rfl rfl rfl hd_X8_bad ⟨(Nat.le_of_ble_eq_true rfl), (Nat.le_of_ble_eq_true rfl)⟩) hW (kS_in (by decide)) rfl rfl rfl hl.1 (Nat.le_of_ble_eq_true rfl) ⟨Nat.zero_le _, Nat.zero_le _⟩ dX8_gives_32 (fun H locs hW => ?_)
    exact re_i hx hb hr hlocks hW (Option.some.inj hf) dX8_gives_35
  refine lv_if_eq (tgt := 31) hx hb dX8_gives_4 (by decide) (fun q3 => ?_) (fun q3 => ?_)
  · rw [if_pos q3] at hf
    exact J31 σ1 _ _ _ hW (lv_sub hl [0] rfl) hf
  · rw [if_neg q3] at hf
    refine lv_iload_n hx hb dX8_gives_7 rfl (lv_at hl 2 rfl) ?_
    refine lv_iconst (v := (0 : Int32)) hx hb dX8_gives_8 (by decide) ?_
    refine lv_aload_n hx hb dX8_gives_9 rfl (lv_at hl 0 rfl) ?_
    refine gf_X8_breath hx hb hts hown hW (kS_in (by decide)) iX8 (List.mem_of_getElem? (i := 1) rfl) dX8_gives_10 ?_
    obtain ⟨r4, σ4, hf4, hf⟩ := ss_bd_some hf
    refine rt_i S (c_X8_in l hAD  hf4) (va_cwS 3 hts gX8_gives_X8_in rfl rfl rfl hd_X8_in ⟨(Nat.le_of_ble_eq_true rfl), (Nat.le_of_ble_eq_true rfl)⟩) hW rfl rfl hl.1 (Nat.le_of_ble_eq_true rfl) ⟨Nat.zero_le _, Nat.zero_le _⟩ dX8_gives_13 (fun H locs hW => ?_)
    refine lv_if_eq (tgt := 31) hx hb dX8_gives_16 (by decide) (fun q5 => ?_) (fun q5 => ?_)
    · rw [if_pos q5] at hf
      exact J31 σ4 _ _ _ hW (lv_sub hl [0] rfl) hf
    · rw [if_neg q5] at hf
      refine lv_iload_n hx hb dX8_gives_19 rfl (lv_at hl 1 rfl) ?_
      refine lv_iload_n hx hb dX8_gives_20 rfl (lv_at hl 2 rfl) ?_
      refine lv_aload_n hx hb dX8_gives_21 rfl (lv_at hl 0 rfl) ?_
      refine gf_X8_breath hx hb hts hown hW (kS_in (by decide)) iX8 (List.mem_of_getElem? (i := 1) rfl) dX8_gives_22 ?_
      obtain ⟨r6, σ6, hf6, hf⟩ := ss_bd_some hf
      refine rt_i S (c_X8_givenBy l hAD  hf6) (va_cwS 3 hts gX8_gives_X8_givenBy rfl rfl rfl hd_X8_givenBy ⟨(Nat.le_of_ble_eq_true rfl), (Nat.le_of_ble_eq_true rfl)⟩) hW rfl rfl hl.1 (Nat.le_of_ble_eq_true rfl) ⟨Nat.zero_le _, Nat.zero_le _⟩ dX8_gives_25 (fun H locs hW => ?_)
      refine lv_goto (tgt := 35) hx hb dX8_gives_28 (by decide) ?_
      exact re_i hx hb hr hlocks hW (Option.some.inj hf) dX8_gives_35
def f_X8_stuckBy_j61 (σ61_ : ss_M) : Option (Int32 × ss_M) :=
  some ((sG σ61_ 17 0), σ61_)
def f_X8_stuckBy_j55 (x5_4 : Int32) (kb5 : Int32 → Int32 → ss_M → Option (Int32 × ss_M)) (x55_3 : Int32) (σ55_ : ss_M) : Option (Int32 × ss_M) :=
  kb5 x55_3 (x5_4 + (1 : Int32)) σ55_
def f_X8_stuckBy_L5 (p0 : Int32) (p1 : Int32) (k5_61 : ss_M → Option (Int32 × ss_M)) : Nat → Int32 → Int32 → ss_M → Option (Int32 × ss_M)
  | 0, _, _, _ => none
  | n5 + 1, x5_3, x5_4, σ5_ => if (sG σ5_ 17 0) ≤ x5_4 then (k5_61 σ5_) else (if x5_4 = p1 then (f_X8_stuckBy_j55 x5_4 (f_X8_stuckBy_L5 p0 p1 k5_61 n5) x5_3 σ5_) else (if gd x5_4 12 = true then (if (sA σ5_ 17 0 (x5_4).toNatClampNeg) ≤ x5_3 then (if gd x5_4 12 = true then (if gd x5_4 12 = true then (ss_bd (f_X8_givenBy (sA σ5_ 18 0 (x5_4).toNatClampNeg) (x5_3 - (sA σ5_ 17 0 (x5_4).toNatClampNeg)) p0 σ5_) (fun r7 σ7 => f_X8_stuckBy_j55 x5_4 (f_X8_stuckBy_L5 p0 p1 k5_61 n5) r7 σ7)) else none) else none) else (some (x5_4, σ5_))) else none))
def f_X8_stuckBy (p0 : Int32) (p1 : Int32) (σ : ss_M) : Option (Int32 × ss_M) :=
  f_X8_stuckBy_L5 p0 p1 (f_X8_stuckBy_j61) FU p0 (0 : Int32) σ
def rm_X8_stuckBy : Room := { frames := 4, cells := 0, slots := 0, locals := 200 }
theorem hd_X8_stuckBy : yX8_stuckBy.cls = RX8 ∧ yX8_stuckBy.cls ≠ "java/lang/invoke/MethodHandle" ∧ yX8_stuckBy.cls ≠ "java/lang/invoke/VarHandle" ∧ (parseMethodDescriptor yX8_stuckBy.desc).map (fun d => d.parameters.length) = some 2 := by decide +kernel
set_option maxHeartbeats 4000000 in
set_option maxRecDepth 100000 in
theorem c_X8_stuckBy (l : Launch) {D : va_G} {Y : Nat → ClassId} {A : ss_A} (hAD : AD 1 A) {p0 : Int32} {p1 : Int32}  {r : Int32} {σ σ' : ss_M} (hf : f_X8_stuckBy p0 p1 σ = some (r, σ')) : Met l yX8_stuckBy wsX8_stuckBy rm_X8_stuckBy (Pc0 1 D Y A σ [.ref (A 0 7 0), .int p0, .int p1]) (Qi0 1 D Y A r σ') 0 0 (FA 1 A) := by
  rw [f_X8_stuckBy] at hf
  refine Met0 (cc := cX8_stuckBy) (maxL := 5) (ret := (some .int)) (own := RX8) (by decide +kernel) rfl hAD rfl (Nat.le_of_ble_eq_true rfl) ?_
  intro p e s m args below meth c S hr hlocks hW ls hl
  obtain ⟨hx, hb, hml, hown, hts⟩ := id S
  have iX8 : ∀ q ∈ wsX80, q ∈ wsX8_stuckBy := fun q h => List.mem_cons_of_mem _ (List.mem_append_right _ (h))
  have hl : lv_has ls 5 [(0, .ref (A 0 7 0)), (1, .int p0), (2, .int p1)] := hl
  refine lv_iload_n hx hb dX8_stuckBy_0 rfl (lv_at hl 1 rfl) ?_
  refine lv_istore_n (lv' := [(3, .int p0), (0, .ref (A 0 7 0)), (1, .int p0), (2, .int p1)]) hx hb dX8_stuckBy_1 rfl hl (by decide) rfl (fun ls hl => ?_)
  refine lv_iconst (v := (0 : Int32)) hx hb dX8_stuckBy_2 (by decide) ?_
  refine lv_istore (lv' := [(4, .int (0 : Int32)), (3, .int p0), (0, .ref (A 0 7 0)), (1, .int p0), (2, .int p1)]) hx hb dX8_stuckBy_3 hl (by decide) rfl (fun ls hl => ?_)
  have J61 : ∀ (σ61_ : ss_M) (H : Heap) (locs : List Loc) (ls : Array Slot), sW 1 D Y A σ61_ s s.heap H locs → lv_has ls 5 [(0, .ref (A 0 7 0))] → f_X8_stuckBy_j61 σ61_ = some (r, σ') → W p l e rm_X8_stuckBy s m args below meth c H locs 0 0 (MQ below (Qi0 1 D Y A r σ') args s 0 0 (FA 1 A)) (F0 m 61 ls []) := by
    intro σ61_ H locs ls hW hl hf
    rw [f_X8_stuckBy_j61] at hf
    refine lv_aload_n hx hb dX8_stuckBy_61 rfl (lv_at hl 0 rfl) ?_
    refine gf_X8_many hx hb hts hown hW (kS_in (by decide)) iX8 (List.mem_of_getElem? (i := 1) rfl) dX8_stuckBy_62 ?_
    exact re_i hx hb hr hlocks hW (Option.some.inj hf) dX8_stuckBy_65
  have L5 : ∀ (n5 : Nat), ∀ (x5_3 : Int32) (x5_4 : Int32) (σ5_ : ss_M) (H : Heap) (locs : List Loc) (ls : Array Slot), sW 1 D Y A σ5_ s s.heap H locs → lv_has ls 5 [(0, .ref (A 0 7 0)), (1, .int p0), (2, .int p1), (3, .int x5_3), (4, .int x5_4)] → f_X8_stuckBy_L5 p0 p1 (f_X8_stuckBy_j61) n5 x5_3 x5_4 σ5_ = some (r, σ') → W p l e rm_X8_stuckBy s m args below meth c H locs 0 0 (MQ below (Qi0 1 D Y A r σ') args s 0 0 (FA 1 A)) (F0 m 5 ls []) := by
    intro n5
    induction n5 with
    | zero =>
      intro x5_3 x5_4 σ5_ H locs ls hW hl hf
      rw [f_X8_stuckBy_L5] at hf
      cases hf
    | succ n5 ih5 =>
      intro x5_3 x5_4 σ5_ H locs ls hW hl hf
      rw [f_X8_stuckBy_L5] at hf
      refine lv_iload hx hb dX8_stuckBy_5 (lv_at hl 4 rfl) ?_
      refine lv_aload_n hx hb dX8_stuckBy_7 rfl (lv_at hl 0 rfl) ?_
      refine gf_X8_many hx hb hts hown hW (kS_in (by decide)) iX8 (List.mem_of_getElem? (i := 1) rfl) dX8_stuckBy_8 ?_
      refine lv_icmp_ge (tgt := 61) hx hb dX8_stuckBy_11 (by decide) (fun q1 => ?_) (fun q1 => ?_)
      · rw [if_pos q1] at hf
        exact J61 σ5_ _ _ _ hW (lv_sub hl [0] rfl) hf
      · rw [if_neg q1] at hf
        refine lv_iload hx hb dX8_stuckBy_14 (lv_at hl 4 rfl) ?_
        refine lv_iload_n hx hb dX8_stuckBy_16 rfl (lv_at hl 2 rfl) ?_
        have J55 : ∀ (x55_3 : Int32) (σ55_ : ss_M) (H : Heap) (locs : List Loc) (ls : Array Slot), sW 1 D Y A σ55_ s s.heap H locs → lv_has ls 5 [(0, .ref (A 0 7 0)), (1, .int p0), (2, .int p1), (3, .int x55_3), (4, .int x5_4)] → f_X8_stuckBy_j55 x5_4 (f_X8_stuckBy_L5 p0 p1 (f_X8_stuckBy_j61) n5) x55_3 σ55_ = some (r, σ') → W p l e rm_X8_stuckBy s m args below meth c H locs 0 0 (MQ below (Qi0 1 D Y A r σ') args s 0 0 (FA 1 A)) (F0 m 55 ls []) := by
          intro x55_3 σ55_ H locs ls hW hl hf
          rw [f_X8_stuckBy_j55] at hf
          refine lv_iinc (v := (x5_4 + (1 : Int32))) (lv' := [(4, .int (x5_4 + (1 : Int32))), (0, .ref (A 0 7 0)), (1, .int p0), (2, .int p1), (3, .int x55_3)]) hx hb dX8_stuckBy_55 hl (k := 4) rfl rfl (by decide) rfl (fun ls hl => ?_)
          refine lv_goto (tgt := 5) hx hb dX8_stuckBy_58 (by decide) ?_
          exact ih5 x55_3 (x5_4 + (1 : Int32)) σ55_ _ _ _ hW (lv_sub hl [1, 2, 3, 4, 0] rfl) hf
        refine lv_icmp_eq (tgt := 55) hx hb dX8_stuckBy_17 (by decide) (fun q2 => ?_) (fun q2 => ?_)
        · rw [if_pos q2] at hf
          exact J55 x5_3 σ5_ _ _ _ hW (lv_sub hl [0, 1, 2, 3, 4] rfl) hf
        · rw [if_neg q2] at hf
          refine lv_aload_n hx hb dX8_stuckBy_20 rfl (lv_at hl 0 rfl) ?_
          refine gf_X8_lengths hx hb hts hown hW (kS_in (by decide)) iX8 (List.mem_of_getElem? (i := 2) rfl) dX8_stuckBy_21 ?_
          refine lv_iload hx hb dX8_stuckBy_24 (lv_at hl 4 rfl) ?_
          obtain ⟨g3, hf⟩ := ss_if hf
          refine ra_i hx hb hW (kS_in (by decide)) g3 dX8_stuckBy_26 ?_
          refine lv_iload_n hx hb dX8_stuckBy_27 rfl (lv_at hl 3 rfl) ?_
          refine lv_icmp_le (tgt := 34) hx hb dX8_stuckBy_28 (by decide) (fun q4 => ?_) (fun q4 => ?_)
          · rw [if_pos q4] at hf
            refine lv_aload_n hx hb dX8_stuckBy_34 rfl (lv_at hl 0 rfl) ?_
            refine gf_X8_kinds hx hb hts hown hW (kS_in (by decide)) iX8 (List.mem_of_getElem? (i := 3) rfl) dX8_stuckBy_35 ?_
            refine lv_iload hx hb dX8_stuckBy_38 (lv_at hl 4 rfl) ?_
            obtain ⟨g5, hf⟩ := ss_if hf
            refine ra_i hx hb hW (kS_in (by decide)) g5 dX8_stuckBy_40 ?_
            refine lv_iload_n hx hb dX8_stuckBy_41 rfl (lv_at hl 3 rfl) ?_
            refine lv_aload_n hx hb dX8_stuckBy_42 rfl (lv_at hl 0 rfl) ?_
            refine gf_X8_lengths hx hb hts hown hW (kS_in (by decide)) iX8 (List.mem_of_getElem? (i := 2) rfl) dX8_stuckBy_43 ?_
            refine lv_iload hx hb dX8_stuckBy_46 (lv_at hl 4 rfl) ?_
            obtain ⟨g6, hf⟩ := ss_if hf
            refine ra_i hx hb hW (kS_in (by decide)) g6 dX8_stuckBy_48 ?_
            refine lv_isub hx hb dX8_stuckBy_49 ?_
            refine lv_iload_n hx hb dX8_stuckBy_50 rfl (lv_at hl 1 rfl) ?_
            obtain ⟨r7, σ7, hf7, hf⟩ := ss_bd_some hf
            refine rt_i S (c_X8_givenBy l hAD  hf7) (va_cwS 3 hts gX8_stuckBy_X8_givenBy rfl rfl rfl hd_X8_givenBy ⟨(Nat.le_of_ble_eq_true rfl), (Nat.le_of_ble_eq_true rfl)⟩) hW rfl rfl hl.1 (Nat.le_of_ble_eq_true rfl) ⟨Nat.zero_le _, Nat.zero_le _⟩ dX8_stuckBy_51 (fun H locs hW => ?_)
            refine lv_istore_n (lv' := [(3, .int r7), (0, .ref (A 0 7 0)), (1, .int p0), (2, .int p1), (4, .int x5_4)]) hx hb dX8_stuckBy_54 rfl hl (by decide) rfl (fun ls hl => ?_)
            exact J55 r7 σ7 _ _ _ hW (lv_sub hl [1, 2, 3, 0, 4] rfl) hf
          · rw [if_neg q4] at hf
            refine lv_iload hx hb dX8_stuckBy_31 (lv_at hl 4 rfl) ?_
            exact re_i hx hb hr hlocks hW (Option.some.inj hf) dX8_stuckBy_33
  exact L5 FU p0 (0 : Int32) σ _ _ _ hW (lv_sub hl [2, 3, 4, 1, 0] rfl) hf
def f_X8_stuck (σ : ss_M) : Option (Int32 × ss_M) :=
  ss_bd (f_X8_stuckBy (sG σ 18 0) (-1 : Int32) σ) (fun r1 σ1 => if r1 = (sG σ1 17 0) then (some ((-1 : Int32), σ1)) else (some (r1, σ1)))
def rm_X8_stuck : Room := { frames := 6, cells := 0, slots := 0, locals := 300 }
theorem hd_X8_stuck : yX8_stuck.cls = RX8 ∧ yX8_stuck.cls ≠ "java/lang/invoke/MethodHandle" ∧ yX8_stuck.cls ≠ "java/lang/invoke/VarHandle" ∧ (parseMethodDescriptor yX8_stuck.desc).map (fun d => d.parameters.length) = some 0 := by decide +kernel
set_option maxHeartbeats 4000000 in
set_option maxRecDepth 100000 in
theorem c_X8_stuck (l : Launch) {D : va_G} {Y : Nat → ClassId} {A : ss_A} (hAD : AD 1 A)   {r : Int32} {σ σ' : ss_M} (hf : f_X8_stuck σ = some (r, σ')) : Met l yX8_stuck wsX8_stuck rm_X8_stuck (Pc0 1 D Y A σ [.ref (A 0 7 0)]) (Qi0 1 D Y A r σ') 0 0 (FA 1 A) := by
  rw [f_X8_stuck] at hf
  refine Met0 (cc := cX8_stuck) (maxL := 2) (ret := (some .int)) (own := RX8) (by decide +kernel) rfl hAD rfl (Nat.le_of_ble_eq_true rfl) ?_
  intro p e s m args below meth c S hr hlocks hW ls hl
  obtain ⟨hx, hb, hml, hown, hts⟩ := id S
  have iX8 : ∀ q ∈ wsX80, q ∈ wsX8_stuck := fun q h => List.mem_cons_of_mem _ (List.mem_append_right _ (h))
  have hl : lv_has ls 2 [(0, .ref (A 0 7 0))] := hl
  refine lv_aload_n hx hb dX8_stuck_0 rfl (lv_at hl 0 rfl) ?_
  refine lv_aload_n hx hb dX8_stuck_1 rfl (lv_at hl 0 rfl) ?_
  refine gf_X8_breath hx hb hts hown hW (kS_in (by decide)) iX8 (List.mem_of_getElem? (i := 1) rfl) dX8_stuck_2 ?_
  refine lv_iconst (v := (-1 : Int32)) hx hb dX8_stuck_5 (by decide) ?_
  obtain ⟨r1, σ1, hf1, hf⟩ := ss_bd_some hf
  refine rv_i S (c_X8_stuckBy l hAD  hf1) (cwV 2 hts gX8_stuck_X8_stuckBy rfl rfl rfl hd_X8_stuckBy ⟨(Nat.le_of_ble_eq_true rfl), (Nat.le_of_ble_eq_true rfl)⟩) hW (kS_in (by decide)) rfl rfl rfl hl.1 (Nat.le_of_ble_eq_true rfl) ⟨Nat.zero_le _, Nat.zero_le _⟩ dX8_stuck_6 (fun H locs hW => ?_)
  refine lv_istore_n (lv' := [(1, .int r1), (0, .ref (A 0 7 0))]) hx hb dX8_stuck_9 rfl hl (by decide) rfl (fun ls hl => ?_)
  refine lv_iload_n hx hb dX8_stuck_10 rfl (lv_at hl 0 rfl) ?_
  refine lv_aload_n hx hb dX8_stuck_11 rfl (lv_at hl 1 rfl) ?_
  refine gf_X8_many hx hb hts hown hW (kS_in (by decide)) iX8 (List.mem_of_getElem? (i := 2) rfl) dX8_stuck_12 ?_
  refine lv_icmp_ne (tgt := 22) hx hb dX8_stuck_15 (by decide) (fun q2 => ?_) (fun q2 => ?_)
  · rw [if_neg q2] at hf
    refine lv_iload_n hx hb dX8_stuck_22 rfl (lv_at hl 0 rfl) ?_
    exact re_i hx hb hr hlocks hW (Option.some.inj hf) dX8_stuck_23
  · rw [if_pos q2] at hf
    refine lv_iconst (v := (-1 : Int32)) hx hb dX8_stuck_18 (by decide) ?_
    refine lv_goto (tgt := 23) hx hb dX8_stuck_19 (by decide) ?_
    exact re_i hx hb hr hlocks hW (Option.some.inj hf) dX8_stuck_23
def f_X8_sentences_j135 (p0 : Int32) (x106_2 : Int32) (x106_4 : Int32) (x106_5 : Int32) (s135_0 : Int32) (σ135_ : ss_M) : Option (Int32 × ss_M) :=
  if p0 = (0 : Int32) then (some (x106_2, σ135_)) else (if p0 = (1 : Int32) then (if s135_0 = (0 : Int32) then (some ((0 : Int32), σ135_)) else (some ((1 : Int32), σ135_))) else (if p0 = (2 : Int32) then (some (x106_4, σ135_)) else (some (x106_5, σ135_))))
def f_X8_sentences_j134 (p0 : Int32) (x106_2 : Int32) (x106_4 : Int32) (x106_5 : Int32) (σ134_ : ss_M) : Option (Int32 × ss_M) :=
  f_X8_sentences_j135 p0 x106_2 x106_4 x106_5 (0 : Int32) σ134_
def f_X8_sentences_j106 (p0 : Int32) (x106_2 : Int32) (x106_4 : Int32) (x106_5 : Int32) (σ106_ : ss_M) : Option (Int32 × ss_M) :=
  if (sG σ106_ 17 0) ≤ (0 : Int32) then (f_X8_sentences_j134 p0 x106_2 x106_4 x106_5 σ106_) else (if gd ((sG σ106_ 17 0) - (1 : Int32)) 12 = true then (ss_bd (f_X8_ends (sA σ106_ 18 0 (((sG σ106_ 17 0) - (1 : Int32))).toNatClampNeg) σ106_) (fun r9 σ9 => if r9 = (0 : Int32) then (f_X8_sentences_j134 p0 x106_2 x106_4 x106_5 σ9) else (f_X8_sentences_j135 p0 x106_2 x106_4 x106_5 (1 : Int32) σ9))) else none)
def f_X8_sentences_j100 (x27_6 : Int32) (kb27 : Int32 → Int32 → Int32 → Int32 → Int32 → ss_M → Option (Int32 × ss_M)) (x100_2 : Int32) (x100_3 : Int32) (x100_4 : Int32) (x100_5 : Int32) (σ100_ : ss_M) : Option (Int32 × ss_M) :=
  kb27 x100_2 x100_3 x100_4 x100_5 (x27_6 + (1 : Int32)) σ100_
def f_X8_sentences_j81 (x27_2 : Int32) (x27_4 : Int32) (x27_6 : Int32) (kb27 : Int32 → Int32 → Int32 → Int32 → Int32 → ss_M → Option (Int32 × ss_M)) (x81_7 : Int32) (s81_0 : Int32) (σ81_ : ss_M) : Option (Int32 × ss_M) :=
  ss_bd (f_X8_greater x27_4 x81_7 σ81_) (fun r14 σ14 => f_X8_sentences_j100 x27_6 kb27 (x27_2 + (1 : Int32)) (x27_6 + (1 : Int32)) r14 s81_0 σ14)
def f_X8_sentences_j60 (x27_2 : Int32) (x27_3 : Int32) (x27_4 : Int32) (x27_5 : Int32) (x27_6 : Int32) (kb27 : Int32 → Int32 → Int32 → Int32 → Int32 → ss_M → Option (Int32 × ss_M)) (σ60_ : ss_M) : Option (Int32 × ss_M) :=
  if ((x27_6 + (1 : Int32)) - x27_3) ≤ x27_4 then (f_X8_sentences_j81 x27_2 x27_4 x27_6 kb27 ((x27_6 + (1 : Int32)) - x27_3) x27_5 σ60_) else (f_X8_sentences_j81 x27_2 x27_4 x27_6 kb27 ((x27_6 + (1 : Int32)) - x27_3) x27_2 σ60_)
def f_X8_sentences_L27 (k27_106 : Int32 → Int32 → Int32 → ss_M → Option (Int32 × ss_M)) : Nat → Int32 → Int32 → Int32 → Int32 → Int32 → ss_M → Option (Int32 × ss_M)
  | 0, _, _, _, _, _, _ => none
  | n27 + 1, x27_2, x27_3, x27_4, x27_5, x27_6, σ27_ => if (sG σ27_ 17 0) ≤ x27_6 then (k27_106 x27_2 x27_4 x27_5 σ27_) else (if gd x27_6 12 = true then (ss_bd (f_X8_ends (sA σ27_ 18 0 (x27_6).toNatClampNeg) σ27_) (fun r13 σ13 => if r13 = (0 : Int32) then (if x27_6 = ((sG σ13 17 0) - (1 : Int32)) then (f_X8_sentences_j60 x27_2 x27_3 x27_4 x27_5 x27_6 (f_X8_sentences_L27 k27_106 n27) σ13) else (f_X8_sentences_j100 x27_6 (f_X8_sentences_L27 k27_106 n27) x27_2 x27_3 x27_4 x27_5 σ13)) else (f_X8_sentences_j60 x27_2 x27_3 x27_4 x27_5 x27_6 (f_X8_sentences_L27 k27_106 n27) σ13))) else none)
def f_X8_sentences (p0 : Int32) (σ : ss_M) : Option (Int32 × ss_M) :=
  ss_bd (f_X8_in p0 (0 : Int32) (3 : Int32) σ) (fun r1 σ1 => if r1 = (0 : Int32) then (ss_bd (f_X8_bad σ1) (fun r18 σ18 => some (r18, σ18))) else (f_X8_sentences_L27 (f_X8_sentences_j106 p0) FU (0 : Int32) (0 : Int32) (0 : Int32) (-1 : Int32) (0 : Int32) σ1))
def rm_X8_sentences : Room := { frames := 4, cells := 0, slots := 0, locals := 200 }
theorem hd_X8_sentences : yX8_sentences.cls = RX8 ∧ yX8_sentences.cls ≠ "java/lang/invoke/MethodHandle" ∧ yX8_sentences.cls ≠ "java/lang/invoke/VarHandle" ∧ (parseMethodDescriptor yX8_sentences.desc).map (fun d => d.parameters.length) = some 1 := by decide +kernel
set_option maxHeartbeats 4000000 in
set_option maxRecDepth 100000 in
theorem c_X8_sentences (l : Launch) {D : va_G} {Y : Nat → ClassId} {A : ss_A} (hAD : AD 1 A) {p0 : Int32}  {r : Int32} {σ σ' : ss_M} (hf : f_X8_sentences p0 σ = some (r, σ')) : Met l yX8_sentences wsX8_sentences rm_X8_sentences (Pc0 1 D Y A σ [.ref (A 0 7 0), .int p0]) (Qi0 1 D Y A r σ') 0 0 (FA 1 A) := by
  rw [f_X8_sentences] at hf
  refine Met0 (cc := cX8_sentences) (maxL := 8) (ret := (some .int)) (own := RX8) (by decide +kernel) rfl hAD rfl (Nat.le_of_ble_eq_true rfl) ?_
  intro p e s m args below meth c S hr hlocks hW ls hl
  obtain ⟨hx, hb, hml, hown, hts⟩ := id S
  have iX8 : ∀ q ∈ wsX80, q ∈ wsX8_sentences := fun q h => List.mem_cons_of_mem _ (List.mem_append_right _ (h))
  have hl : lv_has ls 8 [(0, .ref (A 0 7 0)), (1, .int p0)] := hl
  refine lv_iload_n hx hb dX8_sentences_0 rfl (lv_at hl 1 rfl) ?_
  refine lv_iconst (v := (0 : Int32)) hx hb dX8_sentences_1 (by decide) ?_
  refine lv_iconst (v := (3 : Int32)) hx hb dX8_sentences_2 (by decide) ?_
  obtain ⟨r1, σ1, hf1, hf⟩ := ss_bd_some hf
  refine rt_i S (c_X8_in l hAD  hf1) (va_cwS 3 hts gX8_sentences_X8_in rfl rfl rfl hd_X8_in ⟨(Nat.le_of_ble_eq_true rfl), (Nat.le_of_ble_eq_true rfl)⟩) hW rfl rfl hl.1 (Nat.le_of_ble_eq_true rfl) ⟨Nat.zero_le _, Nat.zero_le _⟩ dX8_sentences_3 (fun H locs hW => ?_)
  refine lv_if_ne (tgt := 14) hx hb dX8_sentences_6 (by decide) (fun q2 => ?_) (fun q2 => ?_)
  · rw [if_neg q2] at hf
    refine lv_iconst (v := (0 : Int32)) hx hb dX8_sentences_14 (by decide) ?_
    refine lv_istore_n (lv' := [(2, .int (0 : Int32)), (0, .ref (A 0 7 0)), (1, .int p0)]) hx hb dX8_sentences_15 rfl hl (by decide) rfl (fun ls hl => ?_)
    refine lv_iconst (v := (0 : Int32)) hx hb dX8_sentences_16 (by decide) ?_
    refine lv_istore_n (lv' := [(3, .int (0 : Int32)), (2, .int (0 : Int32)), (0, .ref (A 0 7 0)), (1, .int p0)]) hx hb dX8_sentences_17 rfl hl (by decide) rfl (fun ls hl => ?_)
    refine lv_iconst (v := (0 : Int32)) hx hb dX8_sentences_18 (by decide) ?_
    refine lv_istore (lv' := [(4, .int (0 : Int32)), (3, .int (0 : Int32)), (2, .int (0 : Int32)), (0, .ref (A 0 7 0)), (1, .int p0)]) hx hb dX8_sentences_19 hl (by decide) rfl (fun ls hl => ?_)
    refine lv_iconst (v := (-1 : Int32)) hx hb dX8_sentences_21 (by decide) ?_
    refine lv_istore (lv' := [(5, .int (-1 : Int32)), (4, .int (0 : Int32)), (3, .int (0 : Int32)), (2, .int (0 : Int32)), (0, .ref (A 0 7 0)), (1, .int p0)]) hx hb dX8_sentences_22 hl (by decide) rfl (fun ls hl => ?_)
    refine lv_iconst (v := (0 : Int32)) hx hb dX8_sentences_24 (by decide) ?_
    refine lv_istore (lv' := [(6, .int (0 : Int32)), (5, .int (-1 : Int32)), (4, .int (0 : Int32)), (3, .int (0 : Int32)), (2, .int (0 : Int32)), (0, .ref (A 0 7 0)), (1, .int p0)]) hx hb dX8_sentences_25 hl (by decide) rfl (fun ls hl => ?_)
    have J106 : ∀ (x106_2 : Int32) (x106_4 : Int32) (x106_5 : Int32) (σ106_ : ss_M) (H : Heap) (locs : List Loc) (ls : Array Slot), sW 1 D Y A σ106_ s s.heap H locs → lv_has ls 8 [(0, .ref (A 0 7 0)), (1, .int p0), (2, .int x106_2), (4, .int x106_4), (5, .int x106_5)] → f_X8_sentences_j106 p0 x106_2 x106_4 x106_5 σ106_ = some (r, σ') → W p l e rm_X8_sentences s m args below meth c H locs 0 0 (MQ below (Qi0 1 D Y A r σ') args s 0 0 (FA 1 A)) (F0 m 106 ls []) := by
      intro x106_2 x106_4 x106_5 σ106_ H locs ls hW hl hf
      rw [f_X8_sentences_j106] at hf
      refine lv_aload_n hx hb dX8_sentences_106 rfl (lv_at hl 0 rfl) ?_
      refine gf_X8_many hx hb hts hown hW (kS_in (by decide)) iX8 (List.mem_of_getElem? (i := 1) rfl) dX8_sentences_107 ?_
      have J135 : ∀ (s135_0 : Int32) (σ135_ : ss_M) (H : Heap) (locs : List Loc) (ls : Array Slot), sW 1 D Y A σ135_ s s.heap H locs → lv_has ls 8 [(1, .int p0), (2, .int x106_2), (4, .int x106_4), (5, .int x106_5)] → f_X8_sentences_j135 p0 x106_2 x106_4 x106_5 s135_0 σ135_ = some (r, σ') → W p l e rm_X8_sentences s m args below meth c H locs 0 0 (MQ below (Qi0 1 D Y A r σ') args s 0 0 (FA 1 A)) (F0 m 135 ls [.int s135_0]) := by
        intro s135_0 σ135_ H locs ls hW hl hf
        rw [f_X8_sentences_j135] at hf
        refine lv_istore (lv' := [(6, .int s135_0), (1, .int p0), (2, .int x106_2), (4, .int x106_4), (5, .int x106_5)]) hx hb dX8_sentences_135 hl (by decide) rfl (fun ls hl => ?_)
        refine lv_iload_n hx hb dX8_sentences_137 rfl (lv_at hl 1 rfl) ?_
        refine lv_if_ne (tgt := 145) hx hb dX8_sentences_138 (by decide) (fun q3 => ?_) (fun q3 => ?_)
        · rw [if_neg q3] at hf
          refine lv_iload_n hx hb dX8_sentences_145 rfl (lv_at hl 1 rfl) ?_
          refine lv_iconst (v := (1 : Int32)) hx hb dX8_sentences_146 (by decide) ?_
          refine lv_icmp_ne (tgt := 163) hx hb dX8_sentences_147 (by decide) (fun q4 => ?_) (fun q4 => ?_)
          · rw [if_neg q4] at hf
            refine lv_iload_n hx hb dX8_sentences_163 rfl (lv_at hl 1 rfl) ?_
            refine lv_iconst (v := (2 : Int32)) hx hb dX8_sentences_164 (by decide) ?_
            refine lv_icmp_ne (tgt := 173) hx hb dX8_sentences_165 (by decide) (fun q5 => ?_) (fun q5 => ?_)
            · rw [if_neg q5] at hf
              refine lv_iload hx hb dX8_sentences_173 (lv_at hl 4 rfl) ?_
              exact re_i hx hb hr hlocks hW (Option.some.inj hf) dX8_sentences_175
            · rw [if_pos q5] at hf
              refine lv_iload hx hb dX8_sentences_168 (lv_at hl 3 rfl) ?_
              refine lv_goto (tgt := 175) hx hb dX8_sentences_170 (by decide) ?_
              exact re_i hx hb hr hlocks hW (Option.some.inj hf) dX8_sentences_175
          · rw [if_pos q4] at hf
            refine lv_iload hx hb dX8_sentences_150 (lv_at hl 0 rfl) ?_
            refine lv_if_eq (tgt := 159) hx hb dX8_sentences_152 (by decide) (fun q6 => ?_) (fun q6 => ?_)
            · rw [if_pos q6] at hf
              refine lv_iconst (v := (0 : Int32)) hx hb dX8_sentences_159 (by decide) ?_
              refine lv_goto (tgt := 175) hx hb dX8_sentences_160 (by decide) ?_
              exact re_i hx hb hr hlocks hW (Option.some.inj hf) dX8_sentences_175
            · rw [if_neg q6] at hf
              refine lv_iconst (v := (1 : Int32)) hx hb dX8_sentences_155 (by decide) ?_
              refine lv_goto (tgt := 175) hx hb dX8_sentences_156 (by decide) ?_
              exact re_i hx hb hr hlocks hW (Option.some.inj hf) dX8_sentences_175
        · rw [if_pos q3] at hf
          refine lv_iload_n hx hb dX8_sentences_141 rfl (lv_at hl 2 rfl) ?_
          refine lv_goto (tgt := 175) hx hb dX8_sentences_142 (by decide) ?_
          exact re_i hx hb hr hlocks hW (Option.some.inj hf) dX8_sentences_175
      have J134 : ∀ (σ134_ : ss_M) (H : Heap) (locs : List Loc) (ls : Array Slot), sW 1 D Y A σ134_ s s.heap H locs → lv_has ls 8 [(1, .int p0), (2, .int x106_2), (4, .int x106_4), (5, .int x106_5)] → f_X8_sentences_j134 p0 x106_2 x106_4 x106_5 σ134_ = some (r, σ') → W p l e rm_X8_sentences s m args below meth c H locs 0 0 (MQ below (Qi0 1 D Y A r σ') args s 0 0 (FA 1 A)) (F0 m 134 ls []) := by
        intro σ134_ H locs ls hW hl hf
        rw [f_X8_sentences_j134] at hf
        refine lv_iconst (v := (0 : Int32)) hx hb dX8_sentences_134 (by decide) ?_
        exact J135 (0 : Int32) σ134_ _ _ _ hW (lv_sub hl [0, 1, 2, 3] rfl) hf
      refine lv_if_le (tgt := 134) hx hb dX8_sentences_110 (by decide) (fun q7 => ?_) (fun q7 => ?_)
      · rw [if_pos q7] at hf
        exact J134 σ106_ _ _ _ hW (lv_sub hl [1, 2, 3, 4] rfl) hf
      · rw [if_neg q7] at hf
        refine lv_aload_n hx hb dX8_sentences_113 rfl (lv_at hl 0 rfl) ?_
        refine gf_X8_kinds hx hb hts hown hW (kS_in (by decide)) iX8 (List.mem_of_getElem? (i := 2) rfl) dX8_sentences_114 ?_
        refine lv_aload_n hx hb dX8_sentences_117 rfl (lv_at hl 0 rfl) ?_
        refine gf_X8_many hx hb hts hown hW (kS_in (by decide)) iX8 (List.mem_of_getElem? (i := 1) rfl) dX8_sentences_118 ?_
        refine lv_iconst (v := (1 : Int32)) hx hb dX8_sentences_121 (by decide) ?_
        refine lv_isub hx hb dX8_sentences_122 ?_
        obtain ⟨g8, hf⟩ := ss_if hf
        refine ra_i hx hb hW (kS_in (by decide)) g8 dX8_sentences_123 ?_
        obtain ⟨r9, σ9, hf9, hf⟩ := ss_bd_some hf
        refine rt_i S (c_X8_ends l hAD  hf9) (va_cwS 1 hts gX8_sentences_X8_ends rfl rfl rfl hd_X8_ends ⟨(Nat.le_of_ble_eq_true rfl), (Nat.le_of_ble_eq_true rfl)⟩) hW rfl rfl hl.1 (Nat.le_of_ble_eq_true rfl) ⟨Nat.zero_le _, Nat.zero_le _⟩ dX8_sentences_124 (fun H locs hW => ?_)
        refine lv_if_eq (tgt := 134) hx hb dX8_sentences_127 (by decide) (fun q10 => ?_) (fun q10 => ?_)
        · rw [if_pos q10] at hf
          exact J134 σ9 _ _ _ hW (lv_sub hl [1, 2, 3, 4] rfl) hf
        · rw [if_neg q10] at hf
          refine lv_iconst (v := (1 : Int32)) hx hb dX8_sentences_130 (by decide) ?_
          refine lv_goto (tgt := 135) hx hb dX8_sentences_131 (by decide) ?_
          exact J135 (1 : Int32) σ9 _ _ _ hW (lv_sub hl [1, 2, 3, 4] rfl) hf
    have L27 : ∀ (n27 : Nat), ∀ (x27_2 : Int32) (x27_3 : Int32) (x27_4 : Int32) (x27_5 : Int32) (x27_6 : Int32) (σ27_ : ss_M) (H : Heap) (locs : List Loc) (ls : Array Slot), sW 1 D Y A σ27_ s s.heap H locs → lv_has ls 8 [(0, .ref (A 0 7 0)), (1, .int p0), (2, .int x27_2), (3, .int x27_3), (4, .int x27_4), (5, .int x27_5), (6, .int x27_6)] → f_X8_sentences_L27 (f_X8_sentences_j106 p0) n27 x27_2 x27_3 x27_4 x27_5 x27_6 σ27_ = some (r, σ') → W p l e rm_X8_sentences s m args below meth c H locs 0 0 (MQ below (Qi0 1 D Y A r σ') args s 0 0 (FA 1 A)) (F0 m 27 ls []) := by
      intro n27
      induction n27 with
      | zero =>
        intro x27_2 x27_3 x27_4 x27_5 x27_6 σ27_ H locs ls hW hl hf
        rw [f_X8_sentences_L27] at hf
        cases hf
      | succ n27 ih27 =>
        intro x27_2 x27_3 x27_4 x27_5 x27_6 σ27_ H locs ls hW hl hf
        rw [f_X8_sentences_L27] at hf
        refine lv_iload hx hb dX8_sentences_27 (lv_at hl 6 rfl) ?_
        refine lv_aload_n hx hb dX8_sentences_29 rfl (lv_at hl 0 rfl) ?_
        refine gf_X8_many hx hb hts hown hW (kS_in (by decide)) iX8 (List.mem_of_getElem? (i := 1) rfl) dX8_sentences_30 ?_
        refine lv_icmp_ge (tgt := 106) hx hb dX8_sentences_33 (by decide) (fun q11 => ?_) (fun q11 => ?_)
        · rw [if_pos q11] at hf
          exact J106 x27_2 x27_4 x27_5 σ27_ _ _ _ hW (lv_sub hl [0, 1, 2, 4, 5] rfl) hf
        · rw [if_neg q11] at hf
          refine lv_aload_n hx hb dX8_sentences_36 rfl (lv_at hl 0 rfl) ?_
          refine gf_X8_kinds hx hb hts hown hW (kS_in (by decide)) iX8 (List.mem_of_getElem? (i := 2) rfl) dX8_sentences_37 ?_
          refine lv_iload hx hb dX8_sentences_40 (lv_at hl 6 rfl) ?_
          obtain ⟨g12, hf⟩ := ss_if hf
          refine ra_i hx hb hW (kS_in (by decide)) g12 dX8_sentences_42 ?_
          obtain ⟨r13, σ13, hf13, hf⟩ := ss_bd_some hf
          refine rt_i S (c_X8_ends l hAD  hf13) (va_cwS 1 hts gX8_sentences_X8_ends rfl rfl rfl hd_X8_ends ⟨(Nat.le_of_ble_eq_true rfl), (Nat.le_of_ble_eq_true rfl)⟩) hW rfl rfl hl.1 (Nat.le_of_ble_eq_true rfl) ⟨Nat.zero_le _, Nat.zero_le _⟩ dX8_sentences_43 (fun H locs hW => ?_)
          have J100 : ∀ (x100_2 : Int32) (x100_3 : Int32) (x100_4 : Int32) (x100_5 : Int32) (σ100_ : ss_M) (H : Heap) (locs : List Loc) (ls : Array Slot), sW 1 D Y A σ100_ s s.heap H locs → lv_has ls 8 [(0, .ref (A 0 7 0)), (1, .int p0), (2, .int x100_2), (3, .int x100_3), (4, .int x100_4), (5, .int x100_5), (6, .int x27_6)] → f_X8_sentences_j100 x27_6 (f_X8_sentences_L27 (f_X8_sentences_j106 p0) n27) x100_2 x100_3 x100_4 x100_5 σ100_ = some (r, σ') → W p l e rm_X8_sentences s m args below meth c H locs 0 0 (MQ below (Qi0 1 D Y A r σ') args s 0 0 (FA 1 A)) (F0 m 100 ls []) := by
            intro x100_2 x100_3 x100_4 x100_5 σ100_ H locs ls hW hl hf
            rw [f_X8_sentences_j100] at hf
            refine lv_iinc (v := (x27_6 + (1 : Int32))) (lv' := [(6, .int (x27_6 + (1 : Int32))), (0, .ref (A 0 7 0)), (1, .int p0), (2, .int x100_2), (3, .int x100_3), (4, .int x100_4), (5, .int x100_5)]) hx hb dX8_sentences_100 hl (k := 6) rfl rfl (by decide) rfl (fun ls hl => ?_)
            refine lv_goto (tgt := 27) hx hb dX8_sentences_103 (by decide) ?_
            exact ih27 x100_2 x100_3 x100_4 x100_5 (x27_6 + (1 : Int32)) σ100_ _ _ _ hW (lv_sub hl [1, 2, 3, 4, 5, 6, 0] rfl) hf
          have J60 : ∀ (σ60_ : ss_M) (H : Heap) (locs : List Loc) (ls : Array Slot), sW 1 D Y A σ60_ s s.heap H locs → lv_has ls 8 [(0, .ref (A 0 7 0)), (1, .int p0), (2, .int x27_2), (3, .int x27_3), (4, .int x27_4), (5, .int x27_5), (6, .int x27_6)] → f_X8_sentences_j60 x27_2 x27_3 x27_4 x27_5 x27_6 (f_X8_sentences_L27 (f_X8_sentences_j106 p0) n27) σ60_ = some (r, σ') → W p l e rm_X8_sentences s m args below meth c H locs 0 0 (MQ below (Qi0 1 D Y A r σ') args s 0 0 (FA 1 A)) (F0 m 60 ls []) := by
            intro σ60_ H locs ls hW hl hf
            rw [f_X8_sentences_j60] at hf
            refine lv_iload hx hb dX8_sentences_60 (lv_at hl 6 rfl) ?_
            refine lv_iconst (v := (1 : Int32)) hx hb dX8_sentences_62 (by decide) ?_
            refine lv_iadd hx hb dX8_sentences_63 ?_
            refine lv_iload_n hx hb dX8_sentences_64 rfl (lv_at hl 3 rfl) ?_
            refine lv_isub hx hb dX8_sentences_65 ?_
            refine lv_istore (lv' := [(7, .int ((x27_6 + (1 : Int32)) - x27_3)), (0, .ref (A 0 7 0)), (1, .int p0), (2, .int x27_2), (3, .int x27_3), (4, .int x27_4), (5, .int x27_5), (6, .int x27_6)]) hx hb dX8_sentences_66 hl (by decide) rfl (fun ls hl => ?_)
            refine lv_iload hx hb dX8_sentences_68 (lv_at hl 0 rfl) ?_
            refine lv_iload hx hb dX8_sentences_70 (lv_at hl 5 rfl) ?_
            have J81 : ∀ (x81_7 : Int32) (s81_0 : Int32) (σ81_ : ss_M) (H : Heap) (locs : List Loc) (ls : Array Slot), sW 1 D Y A σ81_ s s.heap H locs → lv_has ls 8 [(0, .ref (A 0 7 0)), (1, .int p0), (2, .int x27_2), (4, .int x27_4), (6, .int x27_6), (7, .int x81_7)] → f_X8_sentences_j81 x27_2 x27_4 x27_6 (f_X8_sentences_L27 (f_X8_sentences_j106 p0) n27) x81_7 s81_0 σ81_ = some (r, σ') → W p l e rm_X8_sentences s m args below meth c H locs 0 0 (MQ below (Qi0 1 D Y A r σ') args s 0 0 (FA 1 A)) (F0 m 81 ls [.int s81_0]) := by
              intro x81_7 s81_0 σ81_ H locs ls hW hl hf
              rw [f_X8_sentences_j81] at hf
              refine lv_istore (lv' := [(5, .int s81_0), (0, .ref (A 0 7 0)), (1, .int p0), (2, .int x27_2), (4, .int x27_4), (6, .int x27_6), (7, .int x81_7)]) hx hb dX8_sentences_81 hl (by decide) rfl (fun ls hl => ?_)
              refine lv_iload hx hb dX8_sentences_83 (lv_at hl 4 rfl) ?_
              refine lv_iload hx hb dX8_sentences_85 (lv_at hl 6 rfl) ?_
              obtain ⟨r14, σ14, hf14, hf⟩ := ss_bd_some hf
              refine rt_i S (c_X8_greater l hAD  hf14) (va_cwS 2 hts gX8_sentences_X8_greater rfl rfl rfl hd_X8_greater ⟨(Nat.le_of_ble_eq_true rfl), (Nat.le_of_ble_eq_true rfl)⟩) hW rfl rfl hl.1 (Nat.le_of_ble_eq_true rfl) ⟨Nat.zero_le _, Nat.zero_le _⟩ dX8_sentences_87 (fun H locs hW => ?_)
              refine lv_istore (lv' := [(4, .int r14), (5, .int s81_0), (0, .ref (A 0 7 0)), (1, .int p0), (2, .int x27_2), (6, .int x27_6), (7, .int x81_7)]) hx hb dX8_sentences_90 hl (by decide) rfl (fun ls hl => ?_)
              refine lv_iload hx hb dX8_sentences_92 (lv_at hl 5 rfl) ?_
              refine lv_iconst (v := (1 : Int32)) hx hb dX8_sentences_94 (by decide) ?_
              refine lv_iadd hx hb dX8_sentences_95 ?_
              refine lv_istore_n (lv' := [(3, .int (x27_6 + (1 : Int32))), (4, .int r14), (5, .int s81_0), (0, .ref (A 0 7 0)), (1, .int p0), (2, .int x27_2), (6, .int x27_6), (7, .int x81_7)]) hx hb dX8_sentences_96 rfl hl (by decide) rfl (fun ls hl => ?_)
              refine lv_iinc (v := (x27_2 + (1 : Int32))) (lv' := [(2, .int (x27_2 + (1 : Int32))), (3, .int (x27_6 + (1 : Int32))), (4, .int r14), (5, .int s81_0), (0, .ref (A 0 7 0)), (1, .int p0), (6, .int x27_6), (7, .int x81_7)]) hx hb dX8_sentences_97 hl (k := 5) rfl rfl (by decide) rfl (fun ls hl => ?_)
              exact J100 (x27_2 + (1 : Int32)) (x27_6 + (1 : Int32)) r14 s81_0 σ14 _ _ _ hW (lv_sub hl [4, 5, 0, 1, 2, 3, 6] rfl) hf
            refine lv_icmp_le (tgt := 79) hx hb dX8_sentences_72 (by decide) (fun q15 => ?_) (fun q15 => ?_)
            · rw [if_pos q15] at hf
              refine lv_iload hx hb dX8_sentences_79 (lv_at hl 6 rfl) ?_
              exact J81 ((x27_6 + (1 : Int32)) - x27_3) x27_5 σ60_ _ _ _ hW (lv_sub hl [1, 2, 3, 5, 7, 0] rfl) hf
            · rw [if_neg q15] at hf
              refine lv_iload_n hx hb dX8_sentences_75 rfl (lv_at hl 3 rfl) ?_
              refine lv_goto (tgt := 81) hx hb dX8_sentences_76 (by decide) ?_
              exact J81 ((x27_6 + (1 : Int32)) - x27_3) x27_2 σ60_ _ _ _ hW (lv_sub hl [1, 2, 3, 5, 7, 0] rfl) hf
          refine lv_if_ne (tgt := 60) hx hb dX8_sentences_46 (by decide) (fun q16 => ?_) (fun q16 => ?_)
          · rw [if_neg q16] at hf
            exact J60 σ13 _ _ _ hW (lv_sub hl [0, 1, 2, 3, 4, 5, 6] rfl) hf
          · rw [if_pos q16] at hf
            refine lv_iload hx hb dX8_sentences_49 (lv_at hl 6 rfl) ?_
            refine lv_aload_n hx hb dX8_sentences_51 rfl (lv_at hl 0 rfl) ?_
            refine gf_X8_many hx hb hts hown hW (kS_in (by decide)) iX8 (List.mem_of_getElem? (i := 1) rfl) dX8_sentences_52 ?_
            refine lv_iconst (v := (1 : Int32)) hx hb dX8_sentences_55 (by decide) ?_
            refine lv_isub hx hb dX8_sentences_56 ?_
            refine lv_icmp_ne (tgt := 100) hx hb dX8_sentences_57 (by decide) (fun q17 => ?_) (fun q17 => ?_)
            · rw [if_neg q17] at hf
              exact J100 x27_2 x27_3 x27_4 x27_5 σ13 _ _ _ hW (lv_sub hl [0, 1, 2, 3, 4, 5, 6] rfl) hf
            · rw [if_pos q17] at hf
              exact J60 σ13 _ _ _ hW (lv_sub hl [0, 1, 2, 3, 4, 5, 6] rfl) hf
    exact L27 FU (0 : Int32) (0 : Int32) (0 : Int32) (-1 : Int32) (0 : Int32) σ1 _ _ _ hW (lv_sub hl [5, 6, 4, 3, 2, 1, 0] rfl) hf
  · rw [if_pos q2] at hf
    refine lv_aload_n hx hb dX8_sentences_9 rfl (lv_at hl 0 rfl) ?_
    obtain ⟨r18, σ18, hf18, hf⟩ := ss_bd_some hf
    refine rv_i S (c_X8_bad l hAD  hf18) (cwV 0 hts gX8_sentences_X8_bad rfl rfl rfl hd_X8_bad ⟨(Nat.le_of_ble_eq_true rfl), (Nat.le_of_ble_eq_true rfl)⟩) hW (kS_in (by decide)) rfl rfl rfl hl.1 (Nat.le_of_ble_eq_true rfl) ⟨Nat.zero_le _, Nat.zero_le _⟩ dX8_sentences_10 (fun H locs hW => ?_)
    exact re_i hx hb hr hlocks hW (Option.some.inj hf) dX8_sentences_13
def f_X8_cellOf (p0 : Int32) (p1 : Int32) (σ : ss_M) : Option (Int32 × ss_M) :=
  some ((((31 : Int32) * p0) + p1), σ)
def rm_X8_cellOf : Room := { frames := 0, cells := 0, slots := 0, locals := 0 }
theorem hd_X8_cellOf : yX8_cellOf.cls ≠ "java/lang/invoke/MethodHandle" ∧ yX8_cellOf.cls ≠ "java/lang/invoke/VarHandle" ∧ (parseMethodDescriptor yX8_cellOf.desc).map (fun d => d.parameters.length) = some 2 := by decide +kernel
set_option maxHeartbeats 4000000 in
set_option maxRecDepth 100000 in
theorem c_X8_cellOf (l : Launch) {D : va_G} {Y : Nat → ClassId} {A : ss_A} (hAD : AD 1 A) {p0 : Int32} {p1 : Int32}  {r : Int32} {σ σ' : ss_M} (hf : f_X8_cellOf p0 p1 σ = some (r, σ')) : Met l yX8_cellOf wsX8_cellOf rm_X8_cellOf (Pc0 1 D Y A σ [.int p0, .int p1]) (Qi0 1 D Y A r σ') 0 0 (FA 1 A) := by
  rw [f_X8_cellOf] at hf
  refine Met0 (cc := cX8_cellOf) (maxL := 2) (ret := (some .int)) (own := RX8) (by decide +kernel) rfl hAD rfl (Nat.le_of_ble_eq_true rfl) ?_
  intro p e s m args below meth c S hr hlocks hW ls hl
  obtain ⟨hx, hb, hml, hown, hts⟩ := id S
  have hl : lv_has ls 2 [(0, .int p0), (1, .int p1)] := hl
  refine lv_bipush (v := (31 : Int32)) hx hb dX8_cellOf_0 (by decide) ?_
  refine lv_iload_n hx hb dX8_cellOf_2 rfl (lv_at hl 0 rfl) ?_
  refine lv_imul hx hb dX8_cellOf_3 ?_
  refine lv_iload_n hx hb dX8_cellOf_4 rfl (lv_at hl 1 rfl) ?_
  refine lv_iadd hx hb dX8_cellOf_5 ?_
  exact re_i hx hb hr hlocks hW (Option.some.inj hf) dX8_cellOf_6
def f_X8_costBy_j101 (x101_7 : Int32) (σ101_ : ss_M) : Option (Int32 × ss_M) :=
  some (x101_7, σ101_)
def f_X8_costBy_j61 (p0 : Int32) (p1 : Int32) (p2 : Int32) (p3 : Int32) (s33_0 : Int32) (σ61_ : ss_M) : Option (Int32 × ss_M) :=
  if gd p0 12 = true then (ss_bd (f_X8_givenBy s33_0 (p1 - (sA σ61_ 17 0 (p0).toNatClampNeg)) p3 σ61_) (fun r5 σ5 => ss_bd (f_X8_cellOf (p0 + (1 : Int32)) r5 σ5) (fun r6 σ6 => if gd r6 403 = true then (if p2 = (-1 : Int32) then (f_X8_costBy_j101 (sA σ6 24 0 (r6).toNatClampNeg) σ6) else (if (sA σ6 24 0 (r6).toNatClampNeg) < (1048576 : Int32) then (ss_bd (f_X8_costOf p2 σ6) (fun r10 σ10 => some ((((sA σ6 24 0 (r6).toNatClampNeg) + ((100 : Int32) * r10)) + (1 : Int32)), σ10))) else (f_X8_costBy_j101 (sA σ6 24 0 (r6).toNatClampNeg) σ6))) else none))) else none
def f_X8_costBy_j33 (p0 : Int32) (p1 : Int32) (p2 : Int32) (p3 : Int32) (p4 : Int32) (s33_0 : Int32) (σ33_ : ss_M) : Option (Int32 × ss_M) :=
  if p4 = (0 : Int32) then (f_X8_costBy_j61 p0 p1 p2 p3 s33_0 σ33_) else (if p0 = ((sG σ33_ 17 0) - (1 : Int32)) then (ss_bd (f_X8_ends s33_0 σ33_) (fun r13 σ13 => if r13 = (0 : Int32) then (some ((1048576 : Int32), σ13)) else (f_X8_costBy_j61 p0 p1 p2 p3 s33_0 σ13))) else (f_X8_costBy_j61 p0 p1 p2 p3 s33_0 σ33_))
def f_X8_costBy (p0 : Int32) (p1 : Int32) (p2 : Int32) (p3 : Int32) (p4 : Int32) (σ : ss_M) : Option (Int32 × ss_M) :=
  if gd p0 12 = true then (if (sA σ 17 0 (p0).toNatClampNeg) ≤ p1 then (if gd p0 12 = true then (if (sA σ 18 0 (p0).toNatClampNeg) = (-1 : Int32) then (f_X8_costBy_j33 p0 p1 p2 p3 p4 p2 σ) else (if gd p0 12 = true then (f_X8_costBy_j33 p0 p1 p2 p3 p4 (sA σ 18 0 (p0).toNatClampNeg) σ) else none)) else none) else (some ((1048576 : Int32), σ))) else none
def rm_X8_costBy : Room := { frames := 4, cells := 0, slots := 0, locals := 200 }
theorem hd_X8_costBy : yX8_costBy.cls = RX8 ∧ yX8_costBy.cls ≠ "java/lang/invoke/MethodHandle" ∧ yX8_costBy.cls ≠ "java/lang/invoke/VarHandle" ∧ (parseMethodDescriptor yX8_costBy.desc).map (fun d => d.parameters.length) = some 5 := by decide +kernel
set_option maxHeartbeats 4000000 in
set_option maxRecDepth 100000 in
theorem c_X8_costBy (l : Launch) {D : va_G} {Y : Nat → ClassId} {A : ss_A} (hAD : AD 1 A) {p0 : Int32} {p1 : Int32} {p2 : Int32} {p3 : Int32} {p4 : Int32}  {r : Int32} {σ σ' : ss_M} (hf : f_X8_costBy p0 p1 p2 p3 p4 σ = some (r, σ')) : Met l yX8_costBy wsX8_costBy rm_X8_costBy (Pc0 1 D Y A σ [.ref (A 0 7 0), .int p0, .int p1, .int p2, .int p3, .int p4]) (Qi0 1 D Y A r σ') 0 0 (FA 1 A) := by
  rw [f_X8_costBy] at hf
  refine Met0 (cc := cX8_costBy) (maxL := 8) (ret := (some .int)) (own := RX8) (by decide +kernel) rfl hAD rfl (Nat.le_of_ble_eq_true rfl) ?_
  intro p e s m args below meth c S hr hlocks hW ls hl
  obtain ⟨hx, hb, hml, hown, hts⟩ := id S
  have iX8 : ∀ q ∈ wsX80, q ∈ wsX8_costBy := fun q h => List.mem_cons_of_mem _ (List.mem_append_right _ (h))
  have hl : lv_has ls 8 [(0, .ref (A 0 7 0)), (1, .int p0), (2, .int p1), (3, .int p2), (4, .int p3), (5, .int p4)] := hl
  refine lv_aload_n hx hb dX8_costBy_0 rfl (lv_at hl 0 rfl) ?_
  refine gf_X8_lengths hx hb hts hown hW (kS_in (by decide)) iX8 (List.mem_of_getElem? (i := 1) rfl) dX8_costBy_1 ?_
  refine lv_iload_n hx hb dX8_costBy_4 rfl (lv_at hl 1 rfl) ?_
  obtain ⟨g1, hf⟩ := ss_if hf
  refine ra_i hx hb hW (kS_in (by decide)) g1 dX8_costBy_5 ?_
  refine lv_iload_n hx hb dX8_costBy_6 rfl (lv_at hl 2 rfl) ?_
  refine lv_icmp_le (tgt := 13) hx hb dX8_costBy_7 (by decide) (fun q2 => ?_) (fun q2 => ?_)
  · rw [if_pos q2] at hf
    refine lv_aload_n hx hb dX8_costBy_13 rfl (lv_at hl 0 rfl) ?_
    refine gf_X8_kinds hx hb hts hown hW (kS_in (by decide)) iX8 (List.mem_of_getElem? (i := 3) rfl) dX8_costBy_14 ?_
    refine lv_iload_n hx hb dX8_costBy_17 rfl (lv_at hl 1 rfl) ?_
    obtain ⟨g3, hf⟩ := ss_if hf
    refine ra_i hx hb hW (kS_in (by decide)) g3 dX8_costBy_18 ?_
    refine lv_iconst (v := (-1 : Int32)) hx hb dX8_costBy_19 (by decide) ?_
    have J33 : ∀ (s33_0 : Int32) (σ33_ : ss_M) (H : Heap) (locs : List Loc) (ls : Array Slot), sW 1 D Y A σ33_ s s.heap H locs → lv_has ls 8 [(0, .ref (A 0 7 0)), (1, .int p0), (2, .int p1), (3, .int p2), (4, .int p3), (5, .int p4)] → f_X8_costBy_j33 p0 p1 p2 p3 p4 s33_0 σ33_ = some (r, σ') → W p l e rm_X8_costBy s m args below meth c H locs 0 0 (MQ below (Qi0 1 D Y A r σ') args s 0 0 (FA 1 A)) (F0 m 33 ls [.int s33_0]) := by
      intro s33_0 σ33_ H locs ls hW hl hf
      rw [f_X8_costBy_j33] at hf
      refine lv_istore (lv' := [(6, .int s33_0), (0, .ref (A 0 7 0)), (1, .int p0), (2, .int p1), (3, .int p2), (4, .int p3), (5, .int p4)]) hx hb dX8_costBy_33 hl (by decide) rfl (fun ls hl => ?_)
      refine lv_iload hx hb dX8_costBy_35 (lv_at hl 6 rfl) ?_
      have J61 : ∀ (σ61_ : ss_M) (H : Heap) (locs : List Loc) (ls : Array Slot), sW 1 D Y A σ61_ s s.heap H locs → lv_has ls 8 [(0, .ref (A 0 7 0)), (1, .int p0), (2, .int p1), (3, .int p2), (4, .int p3), (6, .int s33_0)] → f_X8_costBy_j61 p0 p1 p2 p3 s33_0 σ61_ = some (r, σ') → W p l e rm_X8_costBy s m args below meth c H locs 0 0 (MQ below (Qi0 1 D Y A r σ') args s 0 0 (FA 1 A)) (F0 m 61 ls []) := by
        intro σ61_ H locs ls hW hl hf
        rw [f_X8_costBy_j61] at hf
        refine lv_aload_n hx hb dX8_costBy_61 rfl (lv_at hl 0 rfl) ?_
        refine gf_X8_least hx hb hts hown hW (kS_in (by decide)) iX8 (List.mem_of_getElem? (i := 5) rfl) dX8_costBy_62 ?_
        refine lv_iload_n hx hb dX8_costBy_65 rfl (lv_at hl 1 rfl) ?_
        refine lv_iconst (v := (1 : Int32)) hx hb dX8_costBy_66 (by decide) ?_
        refine lv_iadd hx hb dX8_costBy_67 ?_
        refine lv_iload hx hb dX8_costBy_68 (lv_at hl 5 rfl) ?_
        refine lv_iload_n hx hb dX8_costBy_70 rfl (lv_at hl 2 rfl) ?_
        refine lv_aload_n hx hb dX8_costBy_71 rfl (lv_at hl 0 rfl) ?_
        refine gf_X8_lengths hx hb hts hown hW (kS_in (by decide)) iX8 (List.mem_of_getElem? (i := 1) rfl) dX8_costBy_72 ?_
        refine lv_iload_n hx hb dX8_costBy_75 rfl (lv_at hl 1 rfl) ?_
        obtain ⟨g4, hf⟩ := ss_if hf
        refine ra_i hx hb hW (kS_in (by decide)) g4 dX8_costBy_76 ?_
        refine lv_isub hx hb dX8_costBy_77 ?_
        refine lv_iload hx hb dX8_costBy_78 (lv_at hl 4 rfl) ?_
        obtain ⟨r5, σ5, hf5, hf⟩ := ss_bd_some hf
        refine rt_i S (c_X8_givenBy l hAD  hf5) (va_cwS 3 hts gX8_costBy_X8_givenBy rfl rfl rfl hd_X8_givenBy ⟨(Nat.le_of_ble_eq_true rfl), (Nat.le_of_ble_eq_true rfl)⟩) hW rfl rfl hl.1 (Nat.le_of_ble_eq_true rfl) ⟨Nat.zero_le _, Nat.zero_le _⟩ dX8_costBy_80 (fun H locs hW => ?_)
        obtain ⟨r6, σ6, hf6, hf⟩ := ss_bd_some hf
        refine rt_i S (c_X8_cellOf l hAD  hf6) (va_cwS 2 hts gX8_costBy_X8_cellOf rfl rfl rfl hd_X8_cellOf ⟨(Nat.le_of_ble_eq_true rfl), (Nat.le_of_ble_eq_true rfl)⟩) hW rfl rfl hl.1 (Nat.le_of_ble_eq_true rfl) ⟨Nat.zero_le _, Nat.zero_le _⟩ dX8_costBy_83 (fun H locs hW => ?_)
        obtain ⟨g7, hf⟩ := ss_if hf
        refine ra_i hx hb hW (kS_in (by decide)) g7 dX8_costBy_86 ?_
        refine lv_istore (lv' := [(7, .int (sA σ6 24 0 (r6).toNatClampNeg)), (0, .ref (A 0 7 0)), (1, .int p0), (2, .int p1), (3, .int p2), (4, .int p3), (6, .int s33_0)]) hx hb dX8_costBy_87 hl (by decide) rfl (fun ls hl => ?_)
        refine lv_iload_n hx hb dX8_costBy_89 rfl (lv_at hl 4 rfl) ?_
        refine lv_iconst (v := (-1 : Int32)) hx hb dX8_costBy_90 (by decide) ?_
        have J101 : ∀ (x101_7 : Int32) (σ101_ : ss_M) (H : Heap) (locs : List Loc) (ls : Array Slot), sW 1 D Y A σ101_ s s.heap H locs → lv_has ls 8 [(7, .int x101_7)] → f_X8_costBy_j101 x101_7 σ101_ = some (r, σ') → W p l e rm_X8_costBy s m args below meth c H locs 0 0 (MQ below (Qi0 1 D Y A r σ') args s 0 0 (FA 1 A)) (F0 m 101 ls []) := by
          intro x101_7 σ101_ H locs ls hW hl hf
          rw [f_X8_costBy_j101] at hf
          refine lv_iload hx hb dX8_costBy_101 (lv_at hl 0 rfl) ?_
          refine lv_goto (tgt := 119) hx hb dX8_costBy_103 (by decide) ?_
          exact re_i hx hb hr hlocks hW (Option.some.inj hf) dX8_costBy_119
        refine lv_icmp_eq (tgt := 101) hx hb dX8_costBy_91 (by decide) (fun q8 => ?_) (fun q8 => ?_)
        · rw [if_pos q8] at hf
          exact J101 (sA σ6 24 0 (r6).toNatClampNeg) σ6 _ _ _ hW (lv_sub hl [0] rfl) hf
        · rw [if_neg q8] at hf
          refine lv_iload hx hb dX8_costBy_94 (lv_at hl 0 rfl) ?_
          refine lv_ldc hx hb hown (hts _ (List.mem_of_getElem? (i := 2) rfl)) dX8_costBy_96 ?_
          refine lv_icmp_lt (tgt := 106) hx hb dX8_costBy_98 (by decide) (fun q9 => ?_) (fun q9 => ?_)
          · rw [if_pos q9] at hf
            refine lv_iload hx hb dX8_costBy_106 (lv_at hl 0 rfl) ?_
            refine lv_bipush (v := (100 : Int32)) hx hb dX8_costBy_108 (by decide) ?_
            refine lv_aload_n hx hb dX8_costBy_110 rfl (lv_at hl 1 rfl) ?_
            refine lv_iload_n hx hb dX8_costBy_111 rfl (lv_at hl 4 rfl) ?_
            obtain ⟨r10, σ10, hf10, hf⟩ := ss_bd_some hf
            refine rv_i S (c_X8_costOf l hAD  hf10) (cwV 1 hts gX8_costBy_X8_costOf rfl rfl rfl hd_X8_costOf ⟨(Nat.le_of_ble_eq_true rfl), (Nat.le_of_ble_eq_true rfl)⟩) hW (kS_in (by decide)) rfl rfl rfl hl.1 (Nat.le_of_ble_eq_true rfl) ⟨Nat.zero_le _, Nat.zero_le _⟩ dX8_costBy_112 (fun H locs hW => ?_)
            refine lv_imul hx hb dX8_costBy_115 ?_
            refine lv_iadd hx hb dX8_costBy_116 ?_
            refine lv_iconst (v := (1 : Int32)) hx hb dX8_costBy_117 (by decide) ?_
            refine lv_iadd hx hb dX8_costBy_118 ?_
            exact re_i hx hb hr hlocks hW (Option.some.inj hf) dX8_costBy_119
          · rw [if_neg q9] at hf
            exact J101 (sA σ6 24 0 (r6).toNatClampNeg) σ6 _ _ _ hW (lv_sub hl [0] rfl) hf
      refine lv_if_eq (tgt := 61) hx hb dX8_costBy_37 (by decide) (fun q11 => ?_) (fun q11 => ?_)
      · rw [if_pos q11] at hf
        exact J61 σ33_ _ _ _ hW (lv_sub hl [1, 2, 3, 4, 5, 0] rfl) hf
      · rw [if_neg q11] at hf
        refine lv_iload_n hx hb dX8_costBy_40 rfl (lv_at hl 2 rfl) ?_
        refine lv_aload_n hx hb dX8_costBy_41 rfl (lv_at hl 1 rfl) ?_
        refine gf_X8_many hx hb hts hown hW (kS_in (by decide)) iX8 (List.mem_of_getElem? (i := 4) rfl) dX8_costBy_42 ?_
        refine lv_iconst (v := (1 : Int32)) hx hb dX8_costBy_45 (by decide) ?_
        refine lv_isub hx hb dX8_costBy_46 ?_
        refine lv_icmp_ne (tgt := 61) hx hb dX8_costBy_47 (by decide) (fun q12 => ?_) (fun q12 => ?_)
        · rw [if_neg q12] at hf
          exact J61 σ33_ _ _ _ hW (lv_sub hl [1, 2, 3, 4, 5, 0] rfl) hf
        · rw [if_pos q12] at hf
          refine lv_iload hx hb dX8_costBy_50 (lv_at hl 0 rfl) ?_
          obtain ⟨r13, σ13, hf13, hf⟩ := ss_bd_some hf
          refine rt_i S (c_X8_ends l hAD  hf13) (va_cwS 1 hts gX8_costBy_X8_ends rfl rfl rfl hd_X8_ends ⟨(Nat.le_of_ble_eq_true rfl), (Nat.le_of_ble_eq_true rfl)⟩) hW rfl rfl hl.1 (Nat.le_of_ble_eq_true rfl) ⟨Nat.zero_le _, Nat.zero_le _⟩ dX8_costBy_52 (fun H locs hW => ?_)
          refine lv_if_ne (tgt := 61) hx hb dX8_costBy_55 (by decide) (fun q14 => ?_) (fun q14 => ?_)
          · rw [if_neg q14] at hf
            exact J61 σ13 _ _ _ hW (lv_sub hl [1, 2, 3, 4, 5, 0] rfl) hf
          · rw [if_pos q14] at hf
            refine lv_ldc hx hb hown (hts _ (List.mem_of_getElem? (i := 2) rfl)) dX8_costBy_58 ?_
            exact re_i hx hb hr hlocks hW (Option.some.inj hf) dX8_costBy_60
    refine lv_icmp_eq (tgt := 32) hx hb dX8_costBy_20 (by decide) (fun q15 => ?_) (fun q15 => ?_)
    · rw [if_pos q15] at hf
      refine lv_iload_n hx hb dX8_costBy_32 rfl (lv_at hl 3 rfl) ?_
      exact J33 p2 σ _ _ _ hW (lv_sub hl [0, 1, 2, 3, 4, 5] rfl) hf
    · rw [if_neg q15] at hf
      refine lv_aload_n hx hb dX8_costBy_23 rfl (lv_at hl 0 rfl) ?_
      refine gf_X8_kinds hx hb hts hown hW (kS_in (by decide)) iX8 (List.mem_of_getElem? (i := 3) rfl) dX8_costBy_24 ?_
      refine lv_iload_n hx hb dX8_costBy_27 rfl (lv_at hl 1 rfl) ?_
      obtain ⟨g16, hf⟩ := ss_if hf
      refine ra_i hx hb hW (kS_in (by decide)) g16 dX8_costBy_28 ?_
      refine lv_goto (tgt := 33) hx hb dX8_costBy_29 (by decide) ?_
      exact J33 (sA σ 18 0 (p0).toNatClampNeg) σ _ _ _ hW (lv_sub hl [0, 1, 2, 3, 4, 5] rfl) hf
  · rw [if_neg q2] at hf
    refine lv_ldc hx hb hown (hts _ (List.mem_of_getElem? (i := 2) rfl)) dX8_costBy_10 ?_
    exact re_i hx hb hr hlocks hW (Option.some.inj hf) dX8_costBy_12
def f_X8_optionsAt (p0 : Int32) (σ : ss_M) : Option (Int32 × ss_M) :=
  if gd p0 12 = true then (if (sA σ 18 0 (p0).toNatClampNeg) = (-1 : Int32) then (some ((6 : Int32), σ)) else (some ((0 : Int32), σ))) else none
def rm_X8_optionsAt : Room := { frames := 0, cells := 0, slots := 0, locals := 0 }
theorem hd_X8_optionsAt : yX8_optionsAt.cls = RX8 ∧ yX8_optionsAt.cls ≠ "java/lang/invoke/MethodHandle" ∧ yX8_optionsAt.cls ≠ "java/lang/invoke/VarHandle" ∧ (parseMethodDescriptor yX8_optionsAt.desc).map (fun d => d.parameters.length) = some 1 := by decide +kernel
set_option maxHeartbeats 4000000 in
set_option maxRecDepth 100000 in
theorem c_X8_optionsAt (l : Launch) {D : va_G} {Y : Nat → ClassId} {A : ss_A} (hAD : AD 1 A) {p0 : Int32}  {r : Int32} {σ σ' : ss_M} (hf : f_X8_optionsAt p0 σ = some (r, σ')) : Met l yX8_optionsAt wsX8_optionsAt rm_X8_optionsAt (Pc0 1 D Y A σ [.ref (A 0 7 0), .int p0]) (Qi0 1 D Y A r σ') 0 0 (FA 1 A) := by
  rw [f_X8_optionsAt] at hf
  refine Met0 (cc := cX8_optionsAt) (maxL := 2) (ret := (some .int)) (own := RX8) (by decide +kernel) rfl hAD rfl (Nat.le_of_ble_eq_true rfl) ?_
  intro p e s m args below meth c S hr hlocks hW ls hl
  obtain ⟨hx, hb, hml, hown, hts⟩ := id S
  have iX8 : ∀ q ∈ wsX80, q ∈ wsX8_optionsAt := fun q h => List.mem_cons_of_mem _ (List.mem_append_right _ (h))
  have hl : lv_has ls 2 [(0, .ref (A 0 7 0)), (1, .int p0)] := hl
  refine lv_aload_n hx hb dX8_optionsAt_0 rfl (lv_at hl 0 rfl) ?_
  refine gf_X8_kinds hx hb hts hown hW (kS_in (by decide)) iX8 (List.mem_of_getElem? (i := 1) rfl) dX8_optionsAt_1 ?_
  refine lv_iload_n hx hb dX8_optionsAt_4 rfl (lv_at hl 1 rfl) ?_
  obtain ⟨g1, hf⟩ := ss_if hf
  refine ra_i hx hb hW (kS_in (by decide)) g1 dX8_optionsAt_5 ?_
  refine lv_iconst (v := (-1 : Int32)) hx hb dX8_optionsAt_6 (by decide) ?_
  refine lv_icmp_ne (tgt := 15) hx hb dX8_optionsAt_7 (by decide) (fun q2 => ?_) (fun q2 => ?_)
  · rw [if_neg q2] at hf
    refine lv_iconst (v := (0 : Int32)) hx hb dX8_optionsAt_15 (by decide) ?_
    exact re_i hx hb hr hlocks hW (Option.some.inj hf) dX8_optionsAt_16
  · rw [if_pos q2] at hf
    refine lv_bipush (v := (6 : Int32)) hx hb dX8_optionsAt_10 (by decide) ?_
    refine lv_goto (tgt := 16) hx hb dX8_optionsAt_12 (by decide) ?_
    exact re_i hx hb hr hlocks hW (Option.some.inj hf) dX8_optionsAt_16
def f_X8_setLeast_j108 (x35_3 : Int32) (kb35 : Int32 → ss_M → Option ss_M) (σ108_ : ss_M) : Option ss_M :=
  kb35 (x35_3 + (-1 : Int32)) σ108_
def f_X8_setLeast_j89 (x35_3 : Int32) (x42_4 : Int32) (kb42 : Int32 → ss_M → Option ss_M) (x89_5 : Int32) (σ89_ : ss_M) : Option ss_M :=
  ss_bd (f_X8_cellOf x35_3 x42_4 σ89_) (fun r3 σ3 => if gd r3 403 = true then (kb42 (x42_4 + (1 : Int32)) (sAu σ3 24 0 (upd (sA σ3 24 0) (r3).toNatClampNeg x89_5))) else none)
def f_X8_setLeast_L55 (p0 : Int32) (p1 : Int32) (x35_3 : Int32) (x42_4 : Int32) (k55_89 : Int32 → ss_M → Option ss_M) : Nat → Int32 → Int32 → ss_M → Option ss_M
  | 0, _, _, _ => none
  | n55 + 1, x55_5, x55_6, σ55_ => ss_bd (f_X8_optionsAt x35_3 σ55_) (fun r5 σ5 => if r5 ≤ x55_6 then (k55_89 x55_5 σ5) else (ss_bd (f_X8_costBy x35_3 x42_4 x55_6 p0 p1 σ5) (fun r7 σ7 => ss_bd (f_X8_lesser x55_5 r7 σ7) (fun r8 σ8 => (f_X8_setLeast_L55 p0 p1 x35_3 x42_4 k55_89 n55) r8 (x55_6 + (1 : Int32)) σ8))))
def f_X8_setLeast_L42 (p0 : Int32) (p1 : Int32) (x35_3 : Int32) (k42_108 : ss_M → Option ss_M) : Nat → Int32 → ss_M → Option ss_M
  | 0, _, _ => none
  | n42 + 1, x42_4, σ42_ => if p0 < x42_4 then (k42_108 σ42_) else (f_X8_setLeast_L55 p0 p1 x35_3 x42_4 (f_X8_setLeast_j89 x35_3 x42_4 (f_X8_setLeast_L42 p0 p1 x35_3 k42_108 n42)) FU (1048576 : Int32) (-1 : Int32) σ42_)
def f_X8_setLeast_L35 (p0 : Int32) (p1 : Int32) : Nat → Int32 → ss_M → Option ss_M
  | 0, _, _ => none
  | n35 + 1, x35_3, σ35_ => if x35_3 < (0 : Int32) then (some σ35_) else (f_X8_setLeast_L42 p0 p1 x35_3 (f_X8_setLeast_j108 x35_3 (f_X8_setLeast_L35 p0 p1 n35)) FU (0 : Int32) σ35_)
def f_X8_setLeast_j28 (p0 : Int32) (p1 : Int32) (σ28_ : ss_M) : Option ss_M :=
  f_X8_setLeast_L35 p0 p1 FU ((sG σ28_ 17 0) - (1 : Int32)) σ28_
def f_X8_setLeast_L2 (k2_28 : ss_M → Option ss_M) : Nat → Int32 → ss_M → Option ss_M
  | 0, _, _ => none
  | n2 + 1, x2_3, σ2_ => if (30 : Int32) < x2_3 then (k2_28 σ2_) else (ss_bd (f_X8_cellOf (sG σ2_ 17 0) x2_3 σ2_) (fun r10 σ10 => if gd r10 403 = true then ((f_X8_setLeast_L2 k2_28 n2) (x2_3 + (1 : Int32)) (sAu σ10 24 0 (upd (sA σ10 24 0) (r10).toNatClampNeg (0 : Int32)))) else none))
def f_X8_setLeast (p0 : Int32) (p1 : Int32) (σ : ss_M) : Option ss_M :=
  f_X8_setLeast_L2 (f_X8_setLeast_j28 p0 p1) FU (0 : Int32) σ
def rm_X8_setLeast : Room := { frames := 6, cells := 0, slots := 0, locals := 300 }
theorem hd_X8_setLeast : yX8_setLeast.cls = RX8 ∧ yX8_setLeast.cls ≠ "java/lang/invoke/MethodHandle" ∧ yX8_setLeast.cls ≠ "java/lang/invoke/VarHandle" ∧ (parseMethodDescriptor yX8_setLeast.desc).map (fun d => d.parameters.length) = some 2 := by decide +kernel
set_option maxHeartbeats 4000000 in
set_option maxRecDepth 100000 in
theorem c_X8_setLeast (l : Launch) {D : va_G} {Y : Nat → ClassId} {A : ss_A} (hAD : AD 1 A) {p0 : Int32} {p1 : Int32}  {σ σ' : ss_M} (hf : f_X8_setLeast p0 p1 σ = some σ') : Met l yX8_setLeast wsX8_setLeast rm_X8_setLeast (Pc0 1 D Y A σ [.ref (A 0 7 0), .int p0, .int p1]) (Qv0 1 D Y A σ') 0 0 (FA 1 A) := by
  rw [f_X8_setLeast] at hf
  refine Met0 (cc := cX8_setLeast) (maxL := 7) (ret := none) (own := RX8) (by decide +kernel) rfl hAD rfl (Nat.le_of_ble_eq_true rfl) ?_
  intro p e s m args below meth c S hr hlocks hW ls hl
  obtain ⟨hx, hb, hml, hown, hts⟩ := id S
  have iX8 : ∀ q ∈ wsX80, q ∈ wsX8_setLeast := fun q h => List.mem_cons_of_mem _ (List.mem_append_right _ (h))
  have hl : lv_has ls 7 [(0, .ref (A 0 7 0)), (1, .int p0), (2, .int p1)] := hl
  refine lv_iconst (v := (0 : Int32)) hx hb dX8_setLeast_0 (by decide) ?_
  refine lv_istore_n (lv' := [(3, .int (0 : Int32)), (0, .ref (A 0 7 0)), (1, .int p0), (2, .int p1)]) hx hb dX8_setLeast_1 rfl hl (by decide) rfl (fun ls hl => ?_)
  have J28 : ∀ (σ28_ : ss_M) (H : Heap) (locs : List Loc) (ls : Array Slot), sW 1 D Y A σ28_ s s.heap H locs → lv_has ls 7 [(0, .ref (A 0 7 0)), (1, .int p0), (2, .int p1)] → f_X8_setLeast_j28 p0 p1 σ28_ = some σ' → W p l e rm_X8_setLeast s m args below meth c H locs 0 0 (MQ below (Qv0 1 D Y A σ') args s 0 0 (FA 1 A)) (F0 m 28 ls []) := by
    intro σ28_ H locs ls hW hl hf
    rw [f_X8_setLeast_j28] at hf
    refine lv_aload_n hx hb dX8_setLeast_28 rfl (lv_at hl 0 rfl) ?_
    refine gf_X8_many hx hb hts hown hW (kS_in (by decide)) iX8 (List.mem_of_getElem? (i := 2) rfl) dX8_setLeast_29 ?_
    refine lv_iconst (v := (1 : Int32)) hx hb dX8_setLeast_32 (by decide) ?_
    refine lv_isub hx hb dX8_setLeast_33 ?_
    refine lv_istore_n (lv' := [(3, .int ((sG σ28_ 17 0) - (1 : Int32))), (0, .ref (A 0 7 0)), (1, .int p0), (2, .int p1)]) hx hb dX8_setLeast_34 rfl hl (by decide) rfl (fun ls hl => ?_)
    have L35 : ∀ (n35 : Nat), ∀ (x35_3 : Int32) (σ35_ : ss_M) (H : Heap) (locs : List Loc) (ls : Array Slot), sW 1 D Y A σ35_ s s.heap H locs → lv_has ls 7 [(0, .ref (A 0 7 0)), (1, .int p0), (2, .int p1), (3, .int x35_3)] → f_X8_setLeast_L35 p0 p1 n35 x35_3 σ35_ = some σ' → W p l e rm_X8_setLeast s m args below meth c H locs 0 0 (MQ below (Qv0 1 D Y A σ') args s 0 0 (FA 1 A)) (F0 m 35 ls []) := by
      intro n35
      induction n35 with
      | zero =>
        intro x35_3 σ35_ H locs ls hW hl hf
        rw [f_X8_setLeast_L35] at hf
        cases hf
      | succ n35 ih35 =>
        intro x35_3 σ35_ H locs ls hW hl hf
        rw [f_X8_setLeast_L35] at hf
        refine lv_iload_n hx hb dX8_setLeast_35 rfl (lv_at hl 3 rfl) ?_
        refine lv_if_lt (tgt := 114) hx hb dX8_setLeast_36 (by decide) (fun q1 => ?_) (fun q1 => ?_)
        · rw [if_pos q1] at hf
          exact re_v hx hb hr hlocks hW (Option.some.inj hf) dX8_setLeast_114
        · rw [if_neg q1] at hf
          refine lv_iconst (v := (0 : Int32)) hx hb dX8_setLeast_39 (by decide) ?_
          refine lv_istore (lv' := [(4, .int (0 : Int32)), (0, .ref (A 0 7 0)), (1, .int p0), (2, .int p1), (3, .int x35_3)]) hx hb dX8_setLeast_40 hl (by decide) rfl (fun ls hl => ?_)
          have J108 : ∀ (σ108_ : ss_M) (H : Heap) (locs : List Loc) (ls : Array Slot), sW 1 D Y A σ108_ s s.heap H locs → lv_has ls 7 [(0, .ref (A 0 7 0)), (1, .int p0), (2, .int p1), (3, .int x35_3)] → f_X8_setLeast_j108 x35_3 (f_X8_setLeast_L35 p0 p1 n35) σ108_ = some σ' → W p l e rm_X8_setLeast s m args below meth c H locs 0 0 (MQ below (Qv0 1 D Y A σ') args s 0 0 (FA 1 A)) (F0 m 108 ls []) := by
            intro σ108_ H locs ls hW hl hf
            rw [f_X8_setLeast_j108] at hf
            refine lv_iinc (v := (x35_3 + (-1 : Int32))) (lv' := [(3, .int (x35_3 + (-1 : Int32))), (0, .ref (A 0 7 0)), (1, .int p0), (2, .int p1)]) hx hb dX8_setLeast_108 hl (k := 3) rfl rfl (by decide) rfl (fun ls hl => ?_)
            refine lv_goto (tgt := 35) hx hb dX8_setLeast_111 (by decide) ?_
            exact ih35 (x35_3 + (-1 : Int32)) σ108_ _ _ _ hW (lv_sub hl [1, 2, 3, 0] rfl) hf
          have L42 : ∀ (n42 : Nat), ∀ (x42_4 : Int32) (σ42_ : ss_M) (H : Heap) (locs : List Loc) (ls : Array Slot), sW 1 D Y A σ42_ s s.heap H locs → lv_has ls 7 [(0, .ref (A 0 7 0)), (1, .int p0), (2, .int p1), (3, .int x35_3), (4, .int x42_4)] → f_X8_setLeast_L42 p0 p1 x35_3 (f_X8_setLeast_j108 x35_3 (f_X8_setLeast_L35 p0 p1 n35)) n42 x42_4 σ42_ = some σ' → W p l e rm_X8_setLeast s m args below meth c H locs 0 0 (MQ below (Qv0 1 D Y A σ') args s 0 0 (FA 1 A)) (F0 m 42 ls []) := by
            intro n42
            induction n42 with
            | zero =>
              intro x42_4 σ42_ H locs ls hW hl hf
              rw [f_X8_setLeast_L42] at hf
              cases hf
            | succ n42 ih42 =>
              intro x42_4 σ42_ H locs ls hW hl hf
              rw [f_X8_setLeast_L42] at hf
              refine lv_iload hx hb dX8_setLeast_42 (lv_at hl 4 rfl) ?_
              refine lv_iload_n hx hb dX8_setLeast_44 rfl (lv_at hl 1 rfl) ?_
              refine lv_icmp_gt (tgt := 108) hx hb dX8_setLeast_45 (by decide) (fun q2 => ?_) (fun q2 => ?_)
              · rw [if_pos q2] at hf
                exact J108 σ42_ _ _ _ hW (lv_sub hl [0, 1, 2, 3] rfl) hf
              · rw [if_neg q2] at hf
                refine lv_ldc hx hb hown (hts _ (List.mem_of_getElem? (i := 3) rfl)) dX8_setLeast_48 ?_
                refine lv_istore (lv' := [(5, .int (1048576 : Int32)), (0, .ref (A 0 7 0)), (1, .int p0), (2, .int p1), (3, .int x35_3), (4, .int x42_4)]) hx hb dX8_setLeast_50 hl (by decide) rfl (fun ls hl => ?_)
                refine lv_iconst (v := (-1 : Int32)) hx hb dX8_setLeast_52 (by decide) ?_
                refine lv_istore (lv' := [(6, .int (-1 : Int32)), (5, .int (1048576 : Int32)), (0, .ref (A 0 7 0)), (1, .int p0), (2, .int p1), (3, .int x35_3), (4, .int x42_4)]) hx hb dX8_setLeast_53 hl (by decide) rfl (fun ls hl => ?_)
                have J89 : ∀ (x89_5 : Int32) (σ89_ : ss_M) (H : Heap) (locs : List Loc) (ls : Array Slot), sW 1 D Y A σ89_ s s.heap H locs → lv_has ls 7 [(0, .ref (A 0 7 0)), (1, .int p0), (2, .int p1), (3, .int x35_3), (4, .int x42_4), (5, .int x89_5)] → f_X8_setLeast_j89 x35_3 x42_4 (f_X8_setLeast_L42 p0 p1 x35_3 (f_X8_setLeast_j108 x35_3 (f_X8_setLeast_L35 p0 p1 n35)) n42) x89_5 σ89_ = some σ' → W p l e rm_X8_setLeast s m args below meth c H locs 0 0 (MQ below (Qv0 1 D Y A σ') args s 0 0 (FA 1 A)) (F0 m 89 ls []) := by
                  intro x89_5 σ89_ H locs ls hW hl hf
                  rw [f_X8_setLeast_j89] at hf
                  refine lv_aload_n hx hb dX8_setLeast_89 rfl (lv_at hl 0 rfl) ?_
                  refine gf_X8_least hx hb hts hown hW (kS_in (by decide)) iX8 (List.mem_of_getElem? (i := 1) rfl) dX8_setLeast_90 ?_
                  refine lv_iload_n hx hb dX8_setLeast_93 rfl (lv_at hl 3 rfl) ?_
                  refine lv_iload hx hb dX8_setLeast_94 (lv_at hl 4 rfl) ?_
                  obtain ⟨r3, σ3, hf3, hf⟩ := ss_bd_some hf
                  refine rt_i S (c_X8_cellOf l hAD  hf3) (va_cwS 2 hts gX8_setLeast_X8_cellOf rfl rfl rfl hd_X8_cellOf ⟨(Nat.le_of_ble_eq_true rfl), (Nat.le_of_ble_eq_true rfl)⟩) hW rfl rfl hl.1 (Nat.le_of_ble_eq_true rfl) ⟨Nat.zero_le _, Nat.zero_le _⟩ dX8_setLeast_96 (fun H locs hW => ?_)
                  refine lv_iload hx hb dX8_setLeast_99 (lv_at hl 5 rfl) ?_
                  obtain ⟨g4, hf⟩ := ss_if hf
                  refine rs_i hx hb hW (kS_in (by decide)) g4 dX8_setLeast_101 (fun H locs hW => ?_)
                  refine lv_iinc (v := (x42_4 + (1 : Int32))) (lv' := [(4, .int (x42_4 + (1 : Int32))), (0, .ref (A 0 7 0)), (1, .int p0), (2, .int p1), (3, .int x35_3), (5, .int x89_5)]) hx hb dX8_setLeast_102 hl (k := 4) rfl rfl (by decide) rfl (fun ls hl => ?_)
                  refine lv_goto (tgt := 42) hx hb dX8_setLeast_105 (by decide) ?_
                  exact ih42 (x42_4 + (1 : Int32)) (sAu σ3 24 0 (upd (sA σ3 24 0) (r3).toNatClampNeg x89_5)) _ _ _ hW (lv_sub hl [1, 2, 3, 4, 0] rfl) hf
                have L55 : ∀ (n55 : Nat), ∀ (x55_5 : Int32) (x55_6 : Int32) (σ55_ : ss_M) (H : Heap) (locs : List Loc) (ls : Array Slot), sW 1 D Y A σ55_ s s.heap H locs → lv_has ls 7 [(0, .ref (A 0 7 0)), (1, .int p0), (2, .int p1), (3, .int x35_3), (4, .int x42_4), (5, .int x55_5), (6, .int x55_6)] → f_X8_setLeast_L55 p0 p1 x35_3 x42_4 (f_X8_setLeast_j89 x35_3 x42_4 (f_X8_setLeast_L42 p0 p1 x35_3 (f_X8_setLeast_j108 x35_3 (f_X8_setLeast_L35 p0 p1 n35)) n42)) n55 x55_5 x55_6 σ55_ = some σ' → W p l e rm_X8_setLeast s m args below meth c H locs 0 0 (MQ below (Qv0 1 D Y A σ') args s 0 0 (FA 1 A)) (F0 m 55 ls []) := by
                  intro n55
                  induction n55 with
                  | zero =>
                    intro x55_5 x55_6 σ55_ H locs ls hW hl hf
                    rw [f_X8_setLeast_L55] at hf
                    cases hf
                  | succ n55 ih55 =>
                    intro x55_5 x55_6 σ55_ H locs ls hW hl hf
                    rw [f_X8_setLeast_L55] at hf
                    refine lv_iload hx hb dX8_setLeast_55 (lv_at hl 6 rfl) ?_
                    refine lv_aload_n hx hb dX8_setLeast_57 rfl (lv_at hl 0 rfl) ?_
                    refine lv_iload_n hx hb dX8_setLeast_58 rfl (lv_at hl 3 rfl) ?_
                    obtain ⟨r5, σ5, hf5, hf⟩ := ss_bd_some hf
                    refine rv_i S (c_X8_optionsAt l hAD  hf5) (cwV 1 hts gX8_setLeast_X8_optionsAt rfl rfl rfl hd_X8_optionsAt ⟨(Nat.le_of_ble_eq_true rfl), (Nat.le_of_ble_eq_true rfl)⟩) hW (kS_in (by decide)) rfl rfl rfl hl.1 (Nat.le_of_ble_eq_true rfl) ⟨Nat.zero_le _, Nat.zero_le _⟩ dX8_setLeast_59 (fun H locs hW => ?_)
                    refine lv_icmp_ge (tgt := 89) hx hb dX8_setLeast_62 (by decide) (fun q6 => ?_) (fun q6 => ?_)
                    · rw [if_pos q6] at hf
                      exact J89 x55_5 σ5 _ _ _ hW (lv_sub hl [0, 1, 2, 3, 4, 5] rfl) hf
                    · rw [if_neg q6] at hf
                      refine lv_iload hx hb dX8_setLeast_65 (lv_at hl 5 rfl) ?_
                      refine lv_aload_n hx hb dX8_setLeast_67 rfl (lv_at hl 0 rfl) ?_
                      refine lv_iload_n hx hb dX8_setLeast_68 rfl (lv_at hl 3 rfl) ?_
                      refine lv_iload hx hb dX8_setLeast_69 (lv_at hl 4 rfl) ?_
                      refine lv_iload hx hb dX8_setLeast_71 (lv_at hl 6 rfl) ?_
                      refine lv_iload_n hx hb dX8_setLeast_73 rfl (lv_at hl 1 rfl) ?_
                      refine lv_iload_n hx hb dX8_setLeast_74 rfl (lv_at hl 2 rfl) ?_
                      obtain ⟨r7, σ7, hf7, hf⟩ := ss_bd_some hf
                      refine rv_i S (c_X8_costBy l hAD  hf7) (cwV 5 hts gX8_setLeast_X8_costBy rfl rfl rfl hd_X8_costBy ⟨(Nat.le_of_ble_eq_true rfl), (Nat.le_of_ble_eq_true rfl)⟩) hW (kS_in (by decide)) rfl rfl rfl hl.1 (Nat.le_of_ble_eq_true rfl) ⟨Nat.zero_le _, Nat.zero_le _⟩ dX8_setLeast_75 (fun H locs hW => ?_)
                      obtain ⟨r8, σ8, hf8, hf⟩ := ss_bd_some hf
                      refine rt_i S (c_X8_lesser l hAD  hf8) (va_cwS 2 hts gX8_setLeast_X8_lesser rfl rfl rfl hd_X8_lesser ⟨(Nat.le_of_ble_eq_true rfl), (Nat.le_of_ble_eq_true rfl)⟩) hW rfl rfl hl.1 (Nat.le_of_ble_eq_true rfl) ⟨Nat.zero_le _, Nat.zero_le _⟩ dX8_setLeast_78 (fun H locs hW => ?_)
                      refine lv_istore (lv' := [(5, .int r8), (0, .ref (A 0 7 0)), (1, .int p0), (2, .int p1), (3, .int x35_3), (4, .int x42_4), (6, .int x55_6)]) hx hb dX8_setLeast_81 hl (by decide) rfl (fun ls hl => ?_)
                      refine lv_iinc (v := (x55_6 + (1 : Int32))) (lv' := [(6, .int (x55_6 + (1 : Int32))), (5, .int r8), (0, .ref (A 0 7 0)), (1, .int p0), (2, .int p1), (3, .int x35_3), (4, .int x42_4)]) hx hb dX8_setLeast_83 hl (k := 6) rfl rfl (by decide) rfl (fun ls hl => ?_)
                      refine lv_goto (tgt := 55) hx hb dX8_setLeast_86 (by decide) ?_
                      exact ih55 r8 (x55_6 + (1 : Int32)) σ8 _ _ _ hW (lv_sub hl [2, 3, 4, 5, 6, 1, 0] rfl) hf
                exact L55 FU (1048576 : Int32) (-1 : Int32) σ42_ _ _ _ hW (lv_sub hl [2, 3, 4, 5, 6, 1, 0] rfl) hf
          exact L42 FU (0 : Int32) σ35_ _ _ _ hW (lv_sub hl [1, 2, 3, 4, 0] rfl) hf
    exact L35 FU ((sG σ28_ 17 0) - (1 : Int32)) σ28_ _ _ _ hW (lv_sub hl [1, 2, 3, 0] rfl) hf
  have L2 : ∀ (n2 : Nat), ∀ (x2_3 : Int32) (σ2_ : ss_M) (H : Heap) (locs : List Loc) (ls : Array Slot), sW 1 D Y A σ2_ s s.heap H locs → lv_has ls 7 [(0, .ref (A 0 7 0)), (1, .int p0), (2, .int p1), (3, .int x2_3)] → f_X8_setLeast_L2 (f_X8_setLeast_j28 p0 p1) n2 x2_3 σ2_ = some σ' → W p l e rm_X8_setLeast s m args below meth c H locs 0 0 (MQ below (Qv0 1 D Y A σ') args s 0 0 (FA 1 A)) (F0 m 2 ls []) := by
    intro n2
    induction n2 with
    | zero =>
      intro x2_3 σ2_ H locs ls hW hl hf
      rw [f_X8_setLeast_L2] at hf
      cases hf
    | succ n2 ih2 =>
      intro x2_3 σ2_ H locs ls hW hl hf
      rw [f_X8_setLeast_L2] at hf
      refine lv_iload_n hx hb dX8_setLeast_2 rfl (lv_at hl 3 rfl) ?_
      refine lv_bipush (v := (30 : Int32)) hx hb dX8_setLeast_3 (by decide) ?_
      refine lv_icmp_gt (tgt := 28) hx hb dX8_setLeast_5 (by decide) (fun q9 => ?_) (fun q9 => ?_)
      · rw [if_pos q9] at hf
        exact J28 σ2_ _ _ _ hW (lv_sub hl [0, 1, 2] rfl) hf
      · rw [if_neg q9] at hf
        refine lv_aload_n hx hb dX8_setLeast_8 rfl (lv_at hl 0 rfl) ?_
        refine gf_X8_least hx hb hts hown hW (kS_in (by decide)) iX8 (List.mem_of_getElem? (i := 1) rfl) dX8_setLeast_9 ?_
        refine lv_aload_n hx hb dX8_setLeast_12 rfl (lv_at hl 0 rfl) ?_
        refine gf_X8_many hx hb hts hown hW (kS_in (by decide)) iX8 (List.mem_of_getElem? (i := 2) rfl) dX8_setLeast_13 ?_
        refine lv_iload_n hx hb dX8_setLeast_16 rfl (lv_at hl 3 rfl) ?_
        obtain ⟨r10, σ10, hf10, hf⟩ := ss_bd_some hf
        refine rt_i S (c_X8_cellOf l hAD  hf10) (va_cwS 2 hts gX8_setLeast_X8_cellOf rfl rfl rfl hd_X8_cellOf ⟨(Nat.le_of_ble_eq_true rfl), (Nat.le_of_ble_eq_true rfl)⟩) hW rfl rfl hl.1 (Nat.le_of_ble_eq_true rfl) ⟨Nat.zero_le _, Nat.zero_le _⟩ dX8_setLeast_17 (fun H locs hW => ?_)
        refine lv_iconst (v := (0 : Int32)) hx hb dX8_setLeast_20 (by decide) ?_
        obtain ⟨g11, hf⟩ := ss_if hf
        refine rs_i hx hb hW (kS_in (by decide)) g11 dX8_setLeast_21 (fun H locs hW => ?_)
        refine lv_iinc (v := (x2_3 + (1 : Int32))) (lv' := [(3, .int (x2_3 + (1 : Int32))), (0, .ref (A 0 7 0)), (1, .int p0), (2, .int p1)]) hx hb dX8_setLeast_22 hl (k := 3) rfl rfl (by decide) rfl (fun ls hl => ?_)
        refine lv_goto (tgt := 2) hx hb dX8_setLeast_25 (by decide) ?_
        exact ih2 (x2_3 + (1 : Int32)) (sAu σ10 24 0 (upd (sA σ10 24 0) (r10).toNatClampNeg (0 : Int32))) _ _ _ hW (lv_sub hl [1, 2, 3, 0] rfl) hf
  exact L2 FU (0 : Int32) σ _ _ _ hW (lv_sub hl [1, 2, 3, 0] rfl) hf
def f_X8_cheapest_j24 (σ24_ : ss_M) : Option (Int32 × ss_M) :=
  ss_bd (f_X8_ten σ24_) (fun r2 σ2 => some (r2, σ2))
def f_X8_cheapest_j184 (p2 : Int32) (x184_5 : Int32) (σ184_ : ss_M) : Option (Int32 × ss_M) :=
  if p2 = (-1 : Int32) then (some ((x184_5 / (100 : Int32)), σ184_)) else (if gd p2 12 = true then (some ((sA σ184_ 25 0 (p2).toNatClampNeg), σ184_)) else none)
def f_X8_cheapest_j162 (p0 : Int32) (x84_5 : Int32) (x84_6 : Int32) (x84_7 : Int32) (kb84 : Int32 → Int32 → Int32 → ss_M → Option (Int32 × ss_M)) (s162_0 : Int32) (σ162_ : ss_M) : Option (Int32 × ss_M) :=
  if gd x84_7 12 = true then (ss_bd (f_X8_givenBy s162_0 (x84_6 - (sA σ162_ 17 0 (x84_7).toNatClampNeg)) p0 σ162_) (fun r18 σ18 => kb84 x84_5 r18 (x84_7 + (1 : Int32)) σ18)) else none
def f_X8_cheapest_j130 (p0 : Int32) (x84_5 : Int32) (x84_6 : Int32) (x84_7 : Int32) (kb84 : Int32 → Int32 → Int32 → ss_M → Option (Int32 × ss_M)) (x130_8 : Int32) (σ130_ : ss_M) : Option (Int32 × ss_M) :=
  if gd x84_7 12 = true then (if gd x84_7 12 = true then (if (sA (sAu σ130_ 25 0 (upd (sA σ130_ 25 0) (x84_7).toNatClampNeg x130_8)) 18 0 (x84_7).toNatClampNeg) = (-1 : Int32) then (f_X8_cheapest_j162 p0 x84_5 x84_6 x84_7 kb84 x130_8 (sAu σ130_ 25 0 (upd (sA σ130_ 25 0) (x84_7).toNatClampNeg x130_8))) else (if gd x84_7 12 = true then (f_X8_cheapest_j162 p0 x84_5 x84_6 x84_7 kb84 (sA (sAu σ130_ 25 0 (upd (sA σ130_ 25 0) (x84_7).toNatClampNeg x130_8)) 18 0 (x84_7).toNatClampNeg) (sAu σ130_ 25 0 (upd (sA σ130_ 25 0) (x84_7).toNatClampNeg x130_8))) else none)) else none) else none
def f_X8_cheapest_L96 (p0 : Int32) (s39_0 : Int32) (x84_6 : Int32) (x84_7 : Int32) (k96_130 : Int32 → ss_M → Option (Int32 × ss_M)) : Nat → Int32 → ss_M → Option (Int32 × ss_M)
  | 0, _, _ => none
  | n96 + 1, x96_8, σ96_ => ss_bd (f_X8_costBy x84_7 x84_6 x96_8 p0 s39_0 σ96_) (fun r21 σ21 => ss_bd (f_X8_cellOf x84_7 x84_6 σ21) (fun r22 σ22 => if gd r22 403 = true then (if r21 = (sA σ22 24 0 (r22).toNatClampNeg) then (k96_130 x96_8 σ22) else ((f_X8_cheapest_L96 p0 s39_0 x84_6 x84_7 k96_130 n96) (x96_8 + (1 : Int32)) σ22)) else none))
def f_X8_cheapest_L84 (p0 : Int32) (s39_0 : Int32) (k84_184 : Int32 → ss_M → Option (Int32 × ss_M)) : Nat → Int32 → Int32 → Int32 → ss_M → Option (Int32 × ss_M)
  | 0, _, _, _, _ => none
  | n84 + 1, x84_5, x84_6, x84_7, σ84_ => if (sG σ84_ 17 0) ≤ x84_7 then (k84_184 x84_5 σ84_) else (f_X8_cheapest_L96 p0 s39_0 x84_6 x84_7 (f_X8_cheapest_j130 p0 x84_5 x84_6 x84_7 (f_X8_cheapest_L84 p0 s39_0 k84_184 n84)) FU (-1 : Int32) σ84_)
def f_X8_cheapest_j39 (p0 : Int32) (p2 : Int32) (s39_0 : Int32) (σ39_ : ss_M) : Option (Int32 × ss_M) :=
  Option.bind (f_X8_setLeast p0 s39_0 σ39_) (fun σ7 => ss_bd (f_X8_cellOf (0 : Int32) p0 σ7) (fun r8 σ8 => if gd r8 403 = true then (if (1048576 : Int32) ≤ (sA σ8 24 0 (r8).toNatClampNeg) then (some ((-5 : Int32), σ8)) else (if p2 < (sG σ8 17 0) then (f_X8_cheapest_L84 p0 s39_0 (f_X8_cheapest_j184 p2) FU (sA σ8 24 0 (r8).toNatClampNeg) p0 (0 : Int32) σ8) else (some ((-5 : Int32), σ8)))) else none))
def f_X8_cheapest (p0 : Int32) (p1 : Int32) (p2 : Int32) (σ : ss_M) : Option (Int32 × ss_M) :=
  ss_bd (f_X8_in p0 (1 : Int32) (30 : Int32) σ) (fun r1 σ1 => if r1 = (0 : Int32) then (f_X8_cheapest_j24 σ1) else (ss_bd (f_X8_in p1 (0 : Int32) (1 : Int32) σ1) (fun r4 σ4 => if r4 = (0 : Int32) then (f_X8_cheapest_j24 σ4) else (if (-1 : Int32) ≤ p2 then (if p1 = (1 : Int32) then (f_X8_cheapest_j39 p0 p2 (1 : Int32) σ4) else (f_X8_cheapest_j39 p0 p2 (0 : Int32) σ4)) else (f_X8_cheapest_j24 σ4)))))
def rm_X8_cheapest : Room := { frames := 8, cells := 0, slots := 0, locals := 400 }
theorem hd_X8_cheapest : yX8_cheapest.cls = RX8 ∧ yX8_cheapest.cls ≠ "java/lang/invoke/MethodHandle" ∧ yX8_cheapest.cls ≠ "java/lang/invoke/VarHandle" ∧ (parseMethodDescriptor yX8_cheapest.desc).map (fun d => d.parameters.length) = some 3 := by decide +kernel
set_option maxHeartbeats 4000000 in
set_option maxRecDepth 100000 in
theorem c_X8_cheapest (l : Launch) {D : va_G} {Y : Nat → ClassId} {A : ss_A} (hAD : AD 1 A) {p0 : Int32} {p1 : Int32} {p2 : Int32}  {r : Int32} {σ σ' : ss_M} (hf : f_X8_cheapest p0 p1 p2 σ = some (r, σ')) : Met l yX8_cheapest wsX8_cheapest rm_X8_cheapest (Pc0 1 D Y A σ [.ref (A 0 7 0), .int p0, .int p1, .int p2]) (Qi0 1 D Y A r σ') 0 0 (FA 1 A) := by
  rw [f_X8_cheapest] at hf
  refine Met0 (cc := cX8_cheapest) (maxL := 9) (ret := (some .int)) (own := RX8) (by decide +kernel) rfl hAD rfl (Nat.le_of_ble_eq_true rfl) ?_
  intro p e s m args below meth c S hr hlocks hW ls hl
  obtain ⟨hx, hb, hml, hown, hts⟩ := id S
  have iX8 : ∀ q ∈ wsX80, q ∈ wsX8_cheapest := fun q h => List.mem_cons_of_mem _ (List.mem_append_right _ (h))
  have hl : lv_has ls 9 [(0, .ref (A 0 7 0)), (1, .int p0), (2, .int p1), (3, .int p2)] := hl
  refine lv_iload_n hx hb dX8_cheapest_0 rfl (lv_at hl 1 rfl) ?_
  refine lv_iconst (v := (1 : Int32)) hx hb dX8_cheapest_1 (by decide) ?_
  refine lv_bipush (v := (30 : Int32)) hx hb dX8_cheapest_2 (by decide) ?_
  obtain ⟨r1, σ1, hf1, hf⟩ := ss_bd_some hf
  refine rt_i S (c_X8_in l hAD  hf1) (va_cwS 3 hts gX8_cheapest_X8_in rfl rfl rfl hd_X8_in ⟨(Nat.le_of_ble_eq_true rfl), (Nat.le_of_ble_eq_true rfl)⟩) hW rfl rfl hl.1 (Nat.le_of_ble_eq_true rfl) ⟨Nat.zero_le _, Nat.zero_le _⟩ dX8_cheapest_4 (fun H locs hW => ?_)
  have J24 : ∀ (σ24_ : ss_M) (H : Heap) (locs : List Loc) (ls : Array Slot), sW 1 D Y A σ24_ s s.heap H locs → lv_has ls 9 [(0, .ref (A 0 7 0))] → f_X8_cheapest_j24 σ24_ = some (r, σ') → W p l e rm_X8_cheapest s m args below meth c H locs 0 0 (MQ below (Qi0 1 D Y A r σ') args s 0 0 (FA 1 A)) (F0 m 24 ls []) := by
    intro σ24_ H locs ls hW hl hf
    rw [f_X8_cheapest_j24] at hf
    refine lv_aload_n hx hb dX8_cheapest_24 rfl (lv_at hl 0 rfl) ?_
    obtain ⟨r2, σ2, hf2, hf⟩ := ss_bd_some hf
    refine rv_i S (c_X8_ten l hAD  hf2) (cwV 0 hts gX8_cheapest_X8_ten rfl rfl rfl hd_X8_ten ⟨(Nat.le_of_ble_eq_true rfl), (Nat.le_of_ble_eq_true rfl)⟩) hW (kS_in (by decide)) rfl rfl rfl hl.1 (Nat.le_of_ble_eq_true rfl) ⟨Nat.zero_le _, Nat.zero_le _⟩ dX8_cheapest_25 (fun H locs hW => ?_)
    exact re_i hx hb hr hlocks hW (Option.some.inj hf) dX8_cheapest_28
  refine lv_if_eq (tgt := 24) hx hb dX8_cheapest_7 (by decide) (fun q3 => ?_) (fun q3 => ?_)
  · rw [if_pos q3] at hf
    exact J24 σ1 _ _ _ hW (lv_sub hl [0] rfl) hf
  · rw [if_neg q3] at hf
    refine lv_iload_n hx hb dX8_cheapest_10 rfl (lv_at hl 2 rfl) ?_
    refine lv_iconst (v := (0 : Int32)) hx hb dX8_cheapest_11 (by decide) ?_
    refine lv_iconst (v := (1 : Int32)) hx hb dX8_cheapest_12 (by decide) ?_
    obtain ⟨r4, σ4, hf4, hf⟩ := ss_bd_some hf
    refine rt_i S (c_X8_in l hAD  hf4) (va_cwS 3 hts gX8_cheapest_X8_in rfl rfl rfl hd_X8_in ⟨(Nat.le_of_ble_eq_true rfl), (Nat.le_of_ble_eq_true rfl)⟩) hW rfl rfl hl.1 (Nat.le_of_ble_eq_true rfl) ⟨Nat.zero_le _, Nat.zero_le _⟩ dX8_cheapest_13 (fun H locs hW => ?_)
    refine lv_if_eq (tgt := 24) hx hb dX8_cheapest_16 (by decide) (fun q5 => ?_) (fun q5 => ?_)
    · rw [if_pos q5] at hf
      exact J24 σ4 _ _ _ hW (lv_sub hl [0] rfl) hf
    · rw [if_neg q5] at hf
      refine lv_iload_n hx hb dX8_cheapest_19 rfl (lv_at hl 3 rfl) ?_
      refine lv_iconst (v := (-1 : Int32)) hx hb dX8_cheapest_20 (by decide) ?_
      refine lv_icmp_ge (tgt := 29) hx hb dX8_cheapest_21 (by decide) (fun q6 => ?_) (fun q6 => ?_)
      · rw [if_pos q6] at hf
        refine lv_iload_n hx hb dX8_cheapest_29 rfl (lv_at hl 2 rfl) ?_
        refine lv_iconst (v := (1 : Int32)) hx hb dX8_cheapest_30 (by decide) ?_
        have J39 : ∀ (s39_0 : Int32) (σ39_ : ss_M) (H : Heap) (locs : List Loc) (ls : Array Slot), sW 1 D Y A σ39_ s s.heap H locs → lv_has ls 9 [(0, .ref (A 0 7 0)), (1, .int p0), (3, .int p2)] → f_X8_cheapest_j39 p0 p2 s39_0 σ39_ = some (r, σ') → W p l e rm_X8_cheapest s m args below meth c H locs 0 0 (MQ below (Qi0 1 D Y A r σ') args s 0 0 (FA 1 A)) (F0 m 39 ls [.int s39_0]) := by
          intro s39_0 σ39_ H locs ls hW hl hf
          rw [f_X8_cheapest_j39] at hf
          refine lv_istore (lv' := [(4, .int s39_0), (0, .ref (A 0 7 0)), (1, .int p0), (3, .int p2)]) hx hb dX8_cheapest_39 hl (by decide) rfl (fun ls hl => ?_)
          refine lv_aload_n hx hb dX8_cheapest_41 rfl (lv_at hl 1 rfl) ?_
          refine lv_iload_n hx hb dX8_cheapest_42 rfl (lv_at hl 2 rfl) ?_
          refine lv_iload hx hb dX8_cheapest_43 (lv_at hl 0 rfl) ?_
          obtain ⟨σ7, hf7, hf⟩ := ss_bind hf
          refine rv_v S (c_X8_setLeast l hAD  hf7) (cwV 2 hts gX8_cheapest_X8_setLeast rfl rfl rfl hd_X8_setLeast ⟨(Nat.le_of_ble_eq_true rfl), (Nat.le_of_ble_eq_true rfl)⟩) hW (kS_in (by decide)) rfl rfl rfl hl.1 (Nat.le_of_ble_eq_true rfl) ⟨Nat.zero_le _, Nat.zero_le _⟩ dX8_cheapest_45 (fun H locs hW => ?_)
          refine lv_aload_n hx hb dX8_cheapest_48 rfl (lv_at hl 1 rfl) ?_
          refine gf_X8_least hx hb hts hown hW (kS_in (by decide)) iX8 (List.mem_of_getElem? (i := 1) rfl) dX8_cheapest_49 ?_
          refine lv_iconst (v := (0 : Int32)) hx hb dX8_cheapest_52 (by decide) ?_
          refine lv_iload_n hx hb dX8_cheapest_53 rfl (lv_at hl 2 rfl) ?_
          obtain ⟨r8, σ8, hf8, hf⟩ := ss_bd_some hf
          refine rt_i S (c_X8_cellOf l hAD  hf8) (va_cwS 2 hts gX8_cheapest_X8_cellOf rfl rfl rfl hd_X8_cellOf ⟨(Nat.le_of_ble_eq_true rfl), (Nat.le_of_ble_eq_true rfl)⟩) hW rfl rfl hl.1 (Nat.le_of_ble_eq_true rfl) ⟨Nat.zero_le _, Nat.zero_le _⟩ dX8_cheapest_54 (fun H locs hW => ?_)
          obtain ⟨g9, hf⟩ := ss_if hf
          refine ra_i hx hb hW (kS_in (by decide)) g9 dX8_cheapest_57 ?_
          refine lv_istore (lv' := [(5, .int (sA σ8 24 0 (r8).toNatClampNeg)), (4, .int s39_0), (0, .ref (A 0 7 0)), (1, .int p0), (3, .int p2)]) hx hb dX8_cheapest_58 hl (by decide) rfl (fun ls hl => ?_)
          refine lv_iload hx hb dX8_cheapest_60 (lv_at hl 0 rfl) ?_
          refine lv_ldc hx hb hown (hts _ (List.mem_of_getElem? (i := 2) rfl)) dX8_cheapest_62 ?_
          refine lv_icmp_ge (tgt := 75) hx hb dX8_cheapest_64 (by decide) (fun q10 => ?_) (fun q10 => ?_)
          · rw [if_pos q10] at hf
            refine lv_bipush (v := (-5 : Int32)) hx hb dX8_cheapest_75 (by decide) ?_
            exact re_i hx hb hr hlocks hW (Option.some.inj hf) dX8_cheapest_77
          · rw [if_neg q10] at hf
            refine lv_iload_n hx hb dX8_cheapest_67 rfl (lv_at hl 4 rfl) ?_
            refine lv_aload_n hx hb dX8_cheapest_68 rfl (lv_at hl 2 rfl) ?_
            refine gf_X8_many hx hb hts hown hW (kS_in (by decide)) iX8 (List.mem_of_getElem? (i := 3) rfl) dX8_cheapest_69 ?_
            refine lv_icmp_lt (tgt := 78) hx hb dX8_cheapest_72 (by decide) (fun q11 => ?_) (fun q11 => ?_)
            · rw [if_pos q11] at hf
              refine lv_iload_n hx hb dX8_cheapest_78 rfl (lv_at hl 3 rfl) ?_
              refine lv_istore (lv' := [(6, .int p0), (5, .int (sA σ8 24 0 (r8).toNatClampNeg)), (4, .int s39_0), (0, .ref (A 0 7 0)), (1, .int p0), (3, .int p2)]) hx hb dX8_cheapest_79 hl (by decide) rfl (fun ls hl => ?_)
              refine lv_iconst (v := (0 : Int32)) hx hb dX8_cheapest_81 (by decide) ?_
              refine lv_istore (lv' := [(7, .int (0 : Int32)), (6, .int p0), (5, .int (sA σ8 24 0 (r8).toNatClampNeg)), (4, .int s39_0), (0, .ref (A 0 7 0)), (1, .int p0), (3, .int p2)]) hx hb dX8_cheapest_82 hl (by decide) rfl (fun ls hl => ?_)
              have J184 : ∀ (x184_5 : Int32) (σ184_ : ss_M) (H : Heap) (locs : List Loc) (ls : Array Slot), sW 1 D Y A σ184_ s s.heap H locs → lv_has ls 9 [(0, .ref (A 0 7 0)), (3, .int p2), (5, .int x184_5)] → f_X8_cheapest_j184 p2 x184_5 σ184_ = some (r, σ') → W p l e rm_X8_cheapest s m args below meth c H locs 0 0 (MQ below (Qi0 1 D Y A r σ') args s 0 0 (FA 1 A)) (F0 m 184 ls []) := by
                intro x184_5 σ184_ H locs ls hW hl hf
                rw [f_X8_cheapest_j184] at hf
                refine lv_iload_n hx hb dX8_cheapest_184 rfl (lv_at hl 1 rfl) ?_
                refine lv_iconst (v := (-1 : Int32)) hx hb dX8_cheapest_185 (by decide) ?_
                refine lv_icmp_ne (tgt := 197) hx hb dX8_cheapest_186 (by decide) (fun q12 => ?_) (fun q12 => ?_)
                · rw [if_neg q12] at hf
                  refine lv_aload_n hx hb dX8_cheapest_197 rfl (lv_at hl 0 rfl) ?_
                  refine gf_X8_bought hx hb hts hown hW (kS_in (by decide)) iX8 (List.mem_of_getElem? (i := 4) rfl) dX8_cheapest_198 ?_
                  refine lv_iload_n hx hb dX8_cheapest_201 rfl (lv_at hl 1 rfl) ?_
                  obtain ⟨g13, hf⟩ := ss_if hf
                  refine ra_i hx hb hW (kS_in (by decide)) g13 dX8_cheapest_202 ?_
                  exact re_i hx hb hr hlocks hW (Option.some.inj hf) dX8_cheapest_203
                · rw [if_pos q12] at hf
                  refine lv_iload hx hb dX8_cheapest_189 (lv_at hl 2 rfl) ?_
                  refine lv_bipush (v := (100 : Int32)) hx hb dX8_cheapest_191 (by decide) ?_
                  refine lv_idiv hx hb dX8_cheapest_193 (by decide) ?_
                  refine lv_goto (tgt := 203) hx hb dX8_cheapest_194 (by decide) ?_
                  exact re_i hx hb hr hlocks hW (Option.some.inj hf) dX8_cheapest_203
              have L84 : ∀ (n84 : Nat), ∀ (x84_5 : Int32) (x84_6 : Int32) (x84_7 : Int32) (σ84_ : ss_M) (H : Heap) (locs : List Loc) (ls : Array Slot), sW 1 D Y A σ84_ s s.heap H locs → lv_has ls 9 [(0, .ref (A 0 7 0)), (1, .int p0), (3, .int p2), (4, .int s39_0), (5, .int x84_5), (6, .int x84_6), (7, .int x84_7)] → f_X8_cheapest_L84 p0 s39_0 (f_X8_cheapest_j184 p2) n84 x84_5 x84_6 x84_7 σ84_ = some (r, σ') → W p l e rm_X8_cheapest s m args below meth c H locs 0 0 (MQ below (Qi0 1 D Y A r σ') args s 0 0 (FA 1 A)) (F0 m 84 ls []) := by
                intro n84
                induction n84 with
                | zero =>
                  intro x84_5 x84_6 x84_7 σ84_ H locs ls hW hl hf
                  rw [f_X8_cheapest_L84] at hf
                  cases hf
                | succ n84 ih84 =>
                  intro x84_5 x84_6 x84_7 σ84_ H locs ls hW hl hf
                  rw [f_X8_cheapest_L84] at hf
                  refine lv_iload hx hb dX8_cheapest_84 (lv_at hl 6 rfl) ?_
                  refine lv_aload_n hx hb dX8_cheapest_86 rfl (lv_at hl 0 rfl) ?_
                  refine gf_X8_many hx hb hts hown hW (kS_in (by decide)) iX8 (List.mem_of_getElem? (i := 3) rfl) dX8_cheapest_87 ?_
                  refine lv_icmp_ge (tgt := 184) hx hb dX8_cheapest_90 (by decide) (fun q14 => ?_) (fun q14 => ?_)
                  · rw [if_pos q14] at hf
                    exact J184 x84_5 σ84_ _ _ _ hW (lv_sub hl [0, 2, 4] rfl) hf
                  · rw [if_neg q14] at hf
                    refine lv_iconst (v := (-1 : Int32)) hx hb dX8_cheapest_93 (by decide) ?_
                    refine lv_istore (lv' := [(8, .int (-1 : Int32)), (0, .ref (A 0 7 0)), (1, .int p0), (3, .int p2), (4, .int s39_0), (5, .int x84_5), (6, .int x84_6), (7, .int x84_7)]) hx hb dX8_cheapest_94 hl (by decide) rfl (fun ls hl => ?_)
                    have J130 : ∀ (x130_8 : Int32) (σ130_ : ss_M) (H : Heap) (locs : List Loc) (ls : Array Slot), sW 1 D Y A σ130_ s s.heap H locs → lv_has ls 9 [(0, .ref (A 0 7 0)), (1, .int p0), (3, .int p2), (4, .int s39_0), (5, .int x84_5), (6, .int x84_6), (7, .int x84_7), (8, .int x130_8)] → f_X8_cheapest_j130 p0 x84_5 x84_6 x84_7 (f_X8_cheapest_L84 p0 s39_0 (f_X8_cheapest_j184 p2) n84) x130_8 σ130_ = some (r, σ') → W p l e rm_X8_cheapest s m args below meth c H locs 0 0 (MQ below (Qi0 1 D Y A r σ') args s 0 0 (FA 1 A)) (F0 m 130 ls []) := by
                      intro x130_8 σ130_ H locs ls hW hl hf
                      rw [f_X8_cheapest_j130] at hf
                      refine lv_aload_n hx hb dX8_cheapest_130 rfl (lv_at hl 0 rfl) ?_
                      refine gf_X8_bought hx hb hts hown hW (kS_in (by decide)) iX8 (List.mem_of_getElem? (i := 4) rfl) dX8_cheapest_131 ?_
                      refine lv_iload hx hb dX8_cheapest_134 (lv_at hl 6 rfl) ?_
                      refine lv_iload hx hb dX8_cheapest_136 (lv_at hl 7 rfl) ?_
                      obtain ⟨g15, hf⟩ := ss_if hf
                      refine rs_i hx hb hW (kS_in (by decide)) g15 dX8_cheapest_138 (fun H locs hW => ?_)
                      refine lv_aload_n hx hb dX8_cheapest_139 rfl (lv_at hl 0 rfl) ?_
                      refine gf_X8_kinds hx hb hts hown hW (kS_in (by decide)) iX8 (List.mem_of_getElem? (i := 5) rfl) dX8_cheapest_140 ?_
                      refine lv_iload hx hb dX8_cheapest_143 (lv_at hl 6 rfl) ?_
                      obtain ⟨g16, hf⟩ := ss_if hf
                      refine ra_i hx hb hW (kS_in (by decide)) g16 dX8_cheapest_145 ?_
                      refine lv_iconst (v := (-1 : Int32)) hx hb dX8_cheapest_146 (by decide) ?_
                      have J162 : ∀ (s162_0 : Int32) (σ162_ : ss_M) (H : Heap) (locs : List Loc) (ls : Array Slot), sW 1 D Y A σ162_ s s.heap H locs → lv_has ls 9 [(0, .ref (A 0 7 0)), (1, .int p0), (3, .int p2), (4, .int s39_0), (5, .int x84_5), (6, .int x84_6), (7, .int x84_7)] → f_X8_cheapest_j162 p0 x84_5 x84_6 x84_7 (f_X8_cheapest_L84 p0 s39_0 (f_X8_cheapest_j184 p2) n84) s162_0 σ162_ = some (r, σ') → W p l e rm_X8_cheapest s m args below meth c H locs 0 0 (MQ below (Qi0 1 D Y A r σ') args s 0 0 (FA 1 A)) (F0 m 162 ls [.int s162_0]) := by
                        intro s162_0 σ162_ H locs ls hW hl hf
                        rw [f_X8_cheapest_j162] at hf
                        refine lv_iload hx hb dX8_cheapest_162 (lv_at hl 5 rfl) ?_
                        refine lv_aload_n hx hb dX8_cheapest_164 rfl (lv_at hl 0 rfl) ?_
                        refine gf_X8_lengths hx hb hts hown hW (kS_in (by decide)) iX8 (List.mem_of_getElem? (i := 6) rfl) dX8_cheapest_165 ?_
                        refine lv_iload hx hb dX8_cheapest_168 (lv_at hl 6 rfl) ?_
                        obtain ⟨g17, hf⟩ := ss_if hf
                        refine ra_i hx hb hW (kS_in (by decide)) g17 dX8_cheapest_170 ?_
                        refine lv_isub hx hb dX8_cheapest_171 ?_
                        refine lv_iload_n hx hb dX8_cheapest_172 rfl (lv_at hl 1 rfl) ?_
                        obtain ⟨r18, σ18, hf18, hf⟩ := ss_bd_some hf
                        refine rt_i S (c_X8_givenBy l hAD  hf18) (va_cwS 3 hts gX8_cheapest_X8_givenBy rfl rfl rfl hd_X8_givenBy ⟨(Nat.le_of_ble_eq_true rfl), (Nat.le_of_ble_eq_true rfl)⟩) hW rfl rfl hl.1 (Nat.le_of_ble_eq_true rfl) ⟨Nat.zero_le _, Nat.zero_le _⟩ dX8_cheapest_173 (fun H locs hW => ?_)
                        refine lv_istore (lv' := [(6, .int r18), (0, .ref (A 0 7 0)), (1, .int p0), (3, .int p2), (4, .int s39_0), (5, .int x84_5), (7, .int x84_7)]) hx hb dX8_cheapest_176 hl (by decide) rfl (fun ls hl => ?_)
                        refine lv_iinc (v := (x84_7 + (1 : Int32))) (lv' := [(7, .int (x84_7 + (1 : Int32))), (6, .int r18), (0, .ref (A 0 7 0)), (1, .int p0), (3, .int p2), (4, .int s39_0), (5, .int x84_5)]) hx hb dX8_cheapest_178 hl (k := 6) rfl rfl (by decide) rfl (fun ls hl => ?_)
                        refine lv_goto (tgt := 84) hx hb dX8_cheapest_181 (by decide) ?_
                        exact ih84 x84_5 r18 (x84_7 + (1 : Int32)) σ18 _ _ _ hW (lv_sub hl [2, 3, 4, 5, 6, 1, 0] rfl) hf
                      refine lv_icmp_eq (tgt := 160) hx hb dX8_cheapest_147 (by decide) (fun q19 => ?_) (fun q19 => ?_)
                      · rw [if_pos q19] at hf
                        refine lv_iload hx hb dX8_cheapest_160 (lv_at hl 7 rfl) ?_
                        exact J162 x130_8 (sAu σ130_ 25 0 (upd (sA σ130_ 25 0) (x84_7).toNatClampNeg x130_8)) _ _ _ hW (lv_sub hl [0, 1, 2, 3, 4, 5, 6] rfl) hf
                      · rw [if_neg q19] at hf
                        refine lv_aload_n hx hb dX8_cheapest_150 rfl (lv_at hl 0 rfl) ?_
                        refine gf_X8_kinds hx hb hts hown hW (kS_in (by decide)) iX8 (List.mem_of_getElem? (i := 5) rfl) dX8_cheapest_151 ?_
                        refine lv_iload hx hb dX8_cheapest_154 (lv_at hl 6 rfl) ?_
                        obtain ⟨g20, hf⟩ := ss_if hf
                        refine ra_i hx hb hW (kS_in (by decide)) g20 dX8_cheapest_156 ?_
                        refine lv_goto (tgt := 162) hx hb dX8_cheapest_157 (by decide) ?_
                        exact J162 (sA (sAu σ130_ 25 0 (upd (sA σ130_ 25 0) (x84_7).toNatClampNeg x130_8)) 18 0 (x84_7).toNatClampNeg) (sAu σ130_ 25 0 (upd (sA σ130_ 25 0) (x84_7).toNatClampNeg x130_8)) _ _ _ hW (lv_sub hl [0, 1, 2, 3, 4, 5, 6] rfl) hf
                    have L96 : ∀ (n96 : Nat), ∀ (x96_8 : Int32) (σ96_ : ss_M) (H : Heap) (locs : List Loc) (ls : Array Slot), sW 1 D Y A σ96_ s s.heap H locs → lv_has ls 9 [(0, .ref (A 0 7 0)), (1, .int p0), (3, .int p2), (4, .int s39_0), (5, .int x84_5), (6, .int x84_6), (7, .int x84_7), (8, .int x96_8)] → f_X8_cheapest_L96 p0 s39_0 x84_6 x84_7 (f_X8_cheapest_j130 p0 x84_5 x84_6 x84_7 (f_X8_cheapest_L84 p0 s39_0 (f_X8_cheapest_j184 p2) n84)) n96 x96_8 σ96_ = some (r, σ') → W p l e rm_X8_cheapest s m args below meth c H locs 0 0 (MQ below (Qi0 1 D Y A r σ') args s 0 0 (FA 1 A)) (F0 m 96 ls []) := by
                      intro n96
                      induction n96 with
                      | zero =>
                        intro x96_8 σ96_ H locs ls hW hl hf
                        rw [f_X8_cheapest_L96] at hf
                        cases hf
                      | succ n96 ih96 =>
                        intro x96_8 σ96_ H locs ls hW hl hf
                        rw [f_X8_cheapest_L96] at hf
                        refine lv_aload_n hx hb dX8_cheapest_96 rfl (lv_at hl 0 rfl) ?_
                        refine lv_iload hx hb dX8_cheapest_97 (lv_at hl 6 rfl) ?_
                        refine lv_iload hx hb dX8_cheapest_99 (lv_at hl 5 rfl) ?_
                        refine lv_iload hx hb dX8_cheapest_101 (lv_at hl 7 rfl) ?_
                        refine lv_iload_n hx hb dX8_cheapest_103 rfl (lv_at hl 1 rfl) ?_
                        refine lv_iload hx hb dX8_cheapest_104 (lv_at hl 3 rfl) ?_
                        obtain ⟨r21, σ21, hf21, hf⟩ := ss_bd_some hf
                        refine rv_i S (c_X8_costBy l hAD  hf21) (cwV 5 hts gX8_cheapest_X8_costBy rfl rfl rfl hd_X8_costBy ⟨(Nat.le_of_ble_eq_true rfl), (Nat.le_of_ble_eq_true rfl)⟩) hW (kS_in (by decide)) rfl rfl rfl hl.1 (Nat.le_of_ble_eq_true rfl) ⟨Nat.zero_le _, Nat.zero_le _⟩ dX8_cheapest_106 (fun H locs hW => ?_)
                        refine lv_aload_n hx hb dX8_cheapest_109 rfl (lv_at hl 0 rfl) ?_
                        refine gf_X8_least hx hb hts hown hW (kS_in (by decide)) iX8 (List.mem_of_getElem? (i := 1) rfl) dX8_cheapest_110 ?_
                        refine lv_iload hx hb dX8_cheapest_113 (lv_at hl 6 rfl) ?_
                        refine lv_iload hx hb dX8_cheapest_115 (lv_at hl 5 rfl) ?_
                        obtain ⟨r22, σ22, hf22, hf⟩ := ss_bd_some hf
                        refine rt_i S (c_X8_cellOf l hAD  hf22) (va_cwS 2 hts gX8_cheapest_X8_cellOf rfl rfl rfl hd_X8_cellOf ⟨(Nat.le_of_ble_eq_true rfl), (Nat.le_of_ble_eq_true rfl)⟩) hW rfl rfl hl.1 (Nat.le_of_ble_eq_true rfl) ⟨Nat.zero_le _, Nat.zero_le _⟩ dX8_cheapest_117 (fun H locs hW => ?_)
                        obtain ⟨g23, hf⟩ := ss_if hf
                        refine ra_i hx hb hW (kS_in (by decide)) g23 dX8_cheapest_120 ?_
                        refine lv_icmp_eq (tgt := 130) hx hb dX8_cheapest_121 (by decide) (fun q24 => ?_) (fun q24 => ?_)
                        · rw [if_pos q24] at hf
                          exact J130 x96_8 σ22 _ _ _ hW (lv_sub hl [0, 1, 2, 3, 4, 5, 6, 7] rfl) hf
                        · rw [if_neg q24] at hf
                          refine lv_iinc (v := (x96_8 + (1 : Int32))) (lv' := [(8, .int (x96_8 + (1 : Int32))), (0, .ref (A 0 7 0)), (1, .int p0), (3, .int p2), (4, .int s39_0), (5, .int x84_5), (6, .int x84_6), (7, .int x84_7)]) hx hb dX8_cheapest_124 hl (k := 7) rfl rfl (by decide) rfl (fun ls hl => ?_)
                          refine lv_goto (tgt := 96) hx hb dX8_cheapest_127 (by decide) ?_
                          exact ih96 (x96_8 + (1 : Int32)) σ22 _ _ _ hW (lv_sub hl [1, 2, 3, 4, 5, 6, 7, 0] rfl) hf
                    exact L96 FU (-1 : Int32) σ84_ _ _ _ hW (lv_sub hl [1, 2, 3, 4, 5, 6, 7, 0] rfl) hf
              exact L84 FU (sA σ8 24 0 (r8).toNatClampNeg) p0 (0 : Int32) σ8 _ _ _ hW (lv_sub hl [4, 5, 6, 3, 2, 1, 0] rfl) hf
            · rw [if_neg q11] at hf
              refine lv_bipush (v := (-5 : Int32)) hx hb dX8_cheapest_75 (by decide) ?_
              exact re_i hx hb hr hlocks hW (Option.some.inj hf) dX8_cheapest_77
        refine lv_icmp_ne (tgt := 38) hx hb dX8_cheapest_31 (by decide) (fun q25 => ?_) (fun q25 => ?_)
        · rw [if_neg q25] at hf
          refine lv_iconst (v := (0 : Int32)) hx hb dX8_cheapest_38 (by decide) ?_
          exact J39 (0 : Int32) σ4 _ _ _ hW (lv_sub hl [0, 1, 3] rfl) hf
        · rw [if_pos q25] at hf
          refine lv_iconst (v := (1 : Int32)) hx hb dX8_cheapest_34 (by decide) ?_
          refine lv_goto (tgt := 39) hx hb dX8_cheapest_35 (by decide) ?_
          exact J39 (1 : Int32) σ4 _ _ _ hW (lv_sub hl [0, 1, 3] rfl) hf
      · rw [if_neg q6] at hf
        exact J24 σ4 _ _ _ hW (lv_sub hl [0] rfl) hf
def f_X8_reach_j264 (σ264_ : ss_M) : Option (Int32 × ss_M) :=
  some ((sG σ264_ 17 0), σ264_)
def f_X8_reach_j258 (x52_2 : Int32) (kb52 : Int32 → ss_M → Option (Int32 × ss_M)) (σ258_ : ss_M) : Option (Int32 × ss_M) :=
  kb52 (x52_2 + (1 : Int32)) σ258_
def f_X8_reach_L231 (k231_258 : ss_M → Option (Int32 × ss_M)) : Nat → Int32 → ss_M → Option (Int32 × ss_M)
  | 0, _, _ => none
  | n231 + 1, x231_4, σ231_ => if (30 : Int32) < x231_4 then (k231_258 σ231_) else (if gd x231_4 31 = true then (if gd x231_4 31 = true then ((f_X8_reach_L231 k231_258 n231) (x231_4 + (1 : Int32)) (sAu σ231_ 26 0 (upd (sA σ231_ 26 0) (x231_4).toNatClampNeg (sA σ231_ 27 0 (x231_4).toNatClampNeg)))) else none) else none)
def f_X8_reach_j222 (x52_2 : Int32) (kb52 : Int32 → ss_M → Option (Int32 × ss_M)) (x222_3 : Int32) (σ222_ : ss_M) : Option (Int32 × ss_M) :=
  if x222_3 = (0 : Int32) then (some (x52_2, σ222_)) else (f_X8_reach_L231 (f_X8_reach_j258 x52_2 kb52) FU (0 : Int32) σ222_)
def f_X8_reach_j216 (x95_4 : Int32) (kb95 : Int32 → Int32 → ss_M → Option (Int32 × ss_M)) (x216_3 : Int32) (σ216_ : ss_M) : Option (Int32 × ss_M) :=
  kb95 x216_3 (x95_4 + (1 : Int32)) σ216_
def f_X8_reach_j205 (x95_4 : Int32) (x120_5 : Int32) (kb120 : Int32 → ss_M → Option (Int32 × ss_M)) (r16 : Int32) (σ16 : ss_M) (s205_0 : Int32) (σ205_ : ss_M) : Option (Int32 × ss_M) :=
  ss_bd (f_X8_lesser (sA σ16 27 0 (r16).toNatClampNeg) ((sA σ16 26 0 (x95_4).toNatClampNeg) + s205_0) σ205_) (fun r19 σ19 => if gd r16 31 = true then (kb120 (x120_5 + (1 : Int32)) (sAu σ19 27 0 (upd (sA σ19 27 0) (r16).toNatClampNeg r19))) else none)
def f_X8_reach_j151 (x52_2 : Int32) (x95_4 : Int32) (x120_5 : Int32) (kb120 : Int32 → ss_M → Option (Int32 × ss_M)) (s151_0 : Int32) (σ151_ : ss_M) : Option (Int32 × ss_M) :=
  if gd x52_2 12 = true then (ss_bd (f_X8_givenBy s151_0 (x95_4 - (sA σ151_ 17 0 (x52_2).toNatClampNeg)) (sG σ151_ 18 0) σ151_) (fun r16 σ16 => if gd r16 31 = true then (if gd x95_4 31 = true then (if x120_5 = (-1 : Int32) then (f_X8_reach_j205 x95_4 x120_5 kb120 r16 σ16 (0 : Int32) σ16) else (ss_bd (f_X8_costOf x120_5 σ16) (fun r22 σ22 => f_X8_reach_j205 x95_4 x120_5 kb120 r16 σ16 r22 σ22))) else none) else none)) else none
def f_X8_reach_L120 (x52_2 : Int32) (x95_4 : Int32) (k120_216 : Int32 → ss_M → Option (Int32 × ss_M)) : Nat → Int32 → ss_M → Option (Int32 × ss_M)
  | 0, _, _ => none
  | n120 + 1, x120_5, σ120_ => ss_bd (f_X8_optionsAt x52_2 σ120_) (fun r12 σ12 => if r12 ≤ x120_5 then (k120_216 (1 : Int32) σ12) else (if gd x52_2 12 = true then (if (sA σ12 18 0 (x52_2).toNatClampNeg) = (-1 : Int32) then (f_X8_reach_j151 x52_2 x95_4 x120_5 (f_X8_reach_L120 x52_2 x95_4 k120_216 n120) x120_5 σ12) else (if gd x52_2 12 = true then (f_X8_reach_j151 x52_2 x95_4 x120_5 (f_X8_reach_L120 x52_2 x95_4 k120_216 n120) (sA σ12 18 0 (x52_2).toNatClampNeg) σ12) else none)) else none))
def f_X8_reach_L95 (p0 : Int32) (x52_2 : Int32) (k95_222 : Int32 → ss_M → Option (Int32 × ss_M)) : Nat → Int32 → Int32 → ss_M → Option (Int32 × ss_M)
  | 0, _, _, _ => none
  | n95 + 1, x95_3, x95_4, σ95_ => if (sG σ95_ 18 0) < x95_4 then (k95_222 x95_3 σ95_) else (if gd x95_4 31 = true then (if p0 < (sA σ95_ 26 0 (x95_4).toNatClampNeg) then (f_X8_reach_j216 x95_4 (f_X8_reach_L95 p0 x52_2 k95_222 n95) x95_3 σ95_) else (f_X8_reach_L120 x52_2 x95_4 (f_X8_reach_j216 x95_4 (f_X8_reach_L95 p0 x52_2 k95_222 n95)) FU (-1 : Int32) σ95_)) else none)
def f_X8_reach_j87 (p0 : Int32) (x52_2 : Int32) (kb52 : Int32 → ss_M → Option (Int32 × ss_M)) (σ87_ : ss_M) : Option (Int32 × ss_M) :=
  if gd x52_2 12 = true then (f_X8_reach_L95 p0 x52_2 (f_X8_reach_j222 x52_2 kb52) FU (0 : Int32) (sA σ87_ 17 0 (x52_2).toNatClampNeg) σ87_) else none
def f_X8_reach_L65 (k65_87 : ss_M → Option (Int32 × ss_M)) : Nat → Int32 → ss_M → Option (Int32 × ss_M)
  | 0, _, _ => none
  | n65 + 1, x65_4, σ65_ => if (30 : Int32) < x65_4 then (k65_87 σ65_) else (if gd x65_4 31 = true then ((f_X8_reach_L65 k65_87 n65) (x65_4 + (1 : Int32)) (sAu σ65_ 27 0 (upd (sA σ65_ 27 0) (x65_4).toNatClampNeg (1048576 : Int32)))) else none)
def f_X8_reach_L52 (p0 : Int32) (k52_264 : ss_M → Option (Int32 × ss_M)) : Nat → Int32 → ss_M → Option (Int32 × ss_M)
  | 0, _, _ => none
  | n52 + 1, x52_2, σ52_ => if (sG σ52_ 17 0) ≤ x52_2 then (k52_264 σ52_) else (f_X8_reach_L65 (f_X8_reach_j87 p0 x52_2 (f_X8_reach_L52 p0 k52_264 n52)) FU (0 : Int32) σ52_)
def f_X8_reach_j50 (p0 : Int32) (σ50_ : ss_M) : Option (Int32 × ss_M) :=
  f_X8_reach_L52 p0 (f_X8_reach_j264) FU (0 : Int32) σ50_
def f_X8_reach_j43 (x18_2 : Int32) (kb18 : Int32 → ss_M → Option (Int32 × ss_M)) (s43_0 : Int32) (σ43_ : ss_M) : Option (Int32 × ss_M) :=
  if gd x18_2 31 = true then (kb18 (x18_2 + (1 : Int32)) (sAu σ43_ 26 0 (upd (sA σ43_ 26 0) (x18_2).toNatClampNeg s43_0))) else none
def f_X8_reach_L18 (k18_50 : ss_M → Option (Int32 × ss_M)) : Nat → Int32 → ss_M → Option (Int32 × ss_M)
  | 0, _, _ => none
  | n18 + 1, x18_2, σ18_ => if (30 : Int32) < x18_2 then (k18_50 σ18_) else (if x18_2 = (sG σ18_ 18 0) then (f_X8_reach_j43 x18_2 (f_X8_reach_L18 k18_50 n18) (0 : Int32) σ18_) else (f_X8_reach_j43 x18_2 (f_X8_reach_L18 k18_50 n18) (1048576 : Int32) σ18_))
def f_X8_reach (p0 : Int32) (σ : ss_M) : Option (Int32 × ss_M) :=
  ss_bd (f_X8_in p0 (0 : Int32) (999 : Int32) σ) (fun r1 σ1 => if r1 = (0 : Int32) then (ss_bd (f_X8_bad σ1) (fun r30 σ30 => some (r30, σ30))) else (f_X8_reach_L18 (f_X8_reach_j50 p0) FU (0 : Int32) σ1))
def rm_X8_reach : Room := { frames := 4, cells := 0, slots := 0, locals := 200 }
theorem hd_X8_reach : yX8_reach.cls = RX8 ∧ yX8_reach.cls ≠ "java/lang/invoke/MethodHandle" ∧ yX8_reach.cls ≠ "java/lang/invoke/VarHandle" ∧ (parseMethodDescriptor yX8_reach.desc).map (fun d => d.parameters.length) = some 1 := by decide +kernel
set_option maxHeartbeats 4000000 in
set_option maxRecDepth 100000 in
theorem c_X8_reach (l : Launch) {D : va_G} {Y : Nat → ClassId} {A : ss_A} (hAD : AD 1 A) {p0 : Int32}  {r : Int32} {σ σ' : ss_M} (hf : f_X8_reach p0 σ = some (r, σ')) : Met l yX8_reach wsX8_reach rm_X8_reach (Pc0 1 D Y A σ [.ref (A 0 7 0), .int p0]) (Qi0 1 D Y A r σ') 0 0 (FA 1 A) := by
  rw [f_X8_reach] at hf
  refine Met0 (cc := cX8_reach) (maxL := 7) (ret := (some .int)) (own := RX8) (by decide +kernel) rfl hAD rfl (Nat.le_of_ble_eq_true rfl) ?_
  intro p e s m args below meth c S hr hlocks hW ls hl
  obtain ⟨hx, hb, hml, hown, hts⟩ := id S
  have iX8 : ∀ q ∈ wsX80, q ∈ wsX8_reach := fun q h => List.mem_cons_of_mem _ (List.mem_append_right _ (h))
  have hl : lv_has ls 7 [(0, .ref (A 0 7 0)), (1, .int p0)] := hl
  refine lv_iload_n hx hb dX8_reach_0 rfl (lv_at hl 1 rfl) ?_
  refine lv_iconst (v := (0 : Int32)) hx hb dX8_reach_1 (by decide) ?_
  refine lv_sipush (v := (999 : Int32)) hx hb dX8_reach_2 (by decide) ?_
  obtain ⟨r1, σ1, hf1, hf⟩ := ss_bd_some hf
  refine rt_i S (c_X8_in l hAD  hf1) (va_cwS 3 hts gX8_reach_X8_in rfl rfl rfl hd_X8_in ⟨(Nat.le_of_ble_eq_true rfl), (Nat.le_of_ble_eq_true rfl)⟩) hW rfl rfl hl.1 (Nat.le_of_ble_eq_true rfl) ⟨Nat.zero_le _, Nat.zero_le _⟩ dX8_reach_5 (fun H locs hW => ?_)
  refine lv_if_ne (tgt := 16) hx hb dX8_reach_8 (by decide) (fun q2 => ?_) (fun q2 => ?_)
  · rw [if_neg q2] at hf
    refine lv_iconst (v := (0 : Int32)) hx hb dX8_reach_16 (by decide) ?_
    refine lv_istore_n (lv' := [(2, .int (0 : Int32)), (0, .ref (A 0 7 0)), (1, .int p0)]) hx hb dX8_reach_17 rfl hl (by decide) rfl (fun ls hl => ?_)
    have J50 : ∀ (σ50_ : ss_M) (H : Heap) (locs : List Loc) (ls : Array Slot), sW 1 D Y A σ50_ s s.heap H locs → lv_has ls 7 [(0, .ref (A 0 7 0)), (1, .int p0)] → f_X8_reach_j50 p0 σ50_ = some (r, σ') → W p l e rm_X8_reach s m args below meth c H locs 0 0 (MQ below (Qi0 1 D Y A r σ') args s 0 0 (FA 1 A)) (F0 m 50 ls []) := by
      intro σ50_ H locs ls hW hl hf
      rw [f_X8_reach_j50] at hf
      refine lv_iconst (v := (0 : Int32)) hx hb dX8_reach_50 (by decide) ?_
      refine lv_istore_n (lv' := [(2, .int (0 : Int32)), (0, .ref (A 0 7 0)), (1, .int p0)]) hx hb dX8_reach_51 rfl hl (by decide) rfl (fun ls hl => ?_)
      have J264 : ∀ (σ264_ : ss_M) (H : Heap) (locs : List Loc) (ls : Array Slot), sW 1 D Y A σ264_ s s.heap H locs → lv_has ls 7 [(0, .ref (A 0 7 0))] → f_X8_reach_j264 σ264_ = some (r, σ') → W p l e rm_X8_reach s m args below meth c H locs 0 0 (MQ below (Qi0 1 D Y A r σ') args s 0 0 (FA 1 A)) (F0 m 264 ls []) := by
        intro σ264_ H locs ls hW hl hf
        rw [f_X8_reach_j264] at hf
        refine lv_aload_n hx hb dX8_reach_264 rfl (lv_at hl 0 rfl) ?_
        refine gf_X8_many hx hb hts hown hW (kS_in (by decide)) iX8 (List.mem_of_getElem? (i := 4) rfl) dX8_reach_265 ?_
        exact re_i hx hb hr hlocks hW (Option.some.inj hf) dX8_reach_268
      have L52 : ∀ (n52 : Nat), ∀ (x52_2 : Int32) (σ52_ : ss_M) (H : Heap) (locs : List Loc) (ls : Array Slot), sW 1 D Y A σ52_ s s.heap H locs → lv_has ls 7 [(0, .ref (A 0 7 0)), (1, .int p0), (2, .int x52_2)] → f_X8_reach_L52 p0 (f_X8_reach_j264) n52 x52_2 σ52_ = some (r, σ') → W p l e rm_X8_reach s m args below meth c H locs 0 0 (MQ below (Qi0 1 D Y A r σ') args s 0 0 (FA 1 A)) (F0 m 52 ls []) := by
        intro n52
        induction n52 with
        | zero =>
          intro x52_2 σ52_ H locs ls hW hl hf
          rw [f_X8_reach_L52] at hf
          cases hf
        | succ n52 ih52 =>
          intro x52_2 σ52_ H locs ls hW hl hf
          rw [f_X8_reach_L52] at hf
          refine lv_iload_n hx hb dX8_reach_52 rfl (lv_at hl 2 rfl) ?_
          refine lv_aload_n hx hb dX8_reach_53 rfl (lv_at hl 0 rfl) ?_
          refine gf_X8_many hx hb hts hown hW (kS_in (by decide)) iX8 (List.mem_of_getElem? (i := 4) rfl) dX8_reach_54 ?_
          refine lv_icmp_ge (tgt := 264) hx hb dX8_reach_57 (by decide) (fun q3 => ?_) (fun q3 => ?_)
          · rw [if_pos q3] at hf
            exact J264 σ52_ _ _ _ hW (lv_sub hl [0] rfl) hf
          · rw [if_neg q3] at hf
            refine lv_iconst (v := (0 : Int32)) hx hb dX8_reach_60 (by decide) ?_
            refine lv_istore_n (lv' := [(3, .int (0 : Int32)), (0, .ref (A 0 7 0)), (1, .int p0), (2, .int x52_2)]) hx hb dX8_reach_61 rfl hl (by decide) rfl (fun ls hl => ?_)
            refine lv_iconst (v := (0 : Int32)) hx hb dX8_reach_62 (by decide) ?_
            refine lv_istore (lv' := [(4, .int (0 : Int32)), (3, .int (0 : Int32)), (0, .ref (A 0 7 0)), (1, .int p0), (2, .int x52_2)]) hx hb dX8_reach_63 hl (by decide) rfl (fun ls hl => ?_)
            have J87 : ∀ (σ87_ : ss_M) (H : Heap) (locs : List Loc) (ls : Array Slot), sW 1 D Y A σ87_ s s.heap H locs → lv_has ls 7 [(0, .ref (A 0 7 0)), (1, .int p0), (2, .int x52_2), (3, .int (0 : Int32))] → f_X8_reach_j87 p0 x52_2 (f_X8_reach_L52 p0 (f_X8_reach_j264) n52) σ87_ = some (r, σ') → W p l e rm_X8_reach s m args below meth c H locs 0 0 (MQ below (Qi0 1 D Y A r σ') args s 0 0 (FA 1 A)) (F0 m 87 ls []) := by
              intro σ87_ H locs ls hW hl hf
              rw [f_X8_reach_j87] at hf
              refine lv_aload_n hx hb dX8_reach_87 rfl (lv_at hl 0 rfl) ?_
              refine gf_X8_lengths hx hb hts hown hW (kS_in (by decide)) iX8 (List.mem_of_getElem? (i := 6) rfl) dX8_reach_88 ?_
              refine lv_iload_n hx hb dX8_reach_91 rfl (lv_at hl 2 rfl) ?_
              obtain ⟨g4, hf⟩ := ss_if hf
              refine ra_i hx hb hW (kS_in (by decide)) g4 dX8_reach_92 ?_
              refine lv_istore (lv' := [(4, .int (sA σ87_ 17 0 (x52_2).toNatClampNeg)), (0, .ref (A 0 7 0)), (1, .int p0), (2, .int x52_2), (3, .int (0 : Int32))]) hx hb dX8_reach_93 hl (by decide) rfl (fun ls hl => ?_)
              have J222 : ∀ (x222_3 : Int32) (σ222_ : ss_M) (H : Heap) (locs : List Loc) (ls : Array Slot), sW 1 D Y A σ222_ s s.heap H locs → lv_has ls 7 [(0, .ref (A 0 7 0)), (1, .int p0), (2, .int x52_2), (3, .int x222_3)] → f_X8_reach_j222 x52_2 (f_X8_reach_L52 p0 (f_X8_reach_j264) n52) x222_3 σ222_ = some (r, σ') → W p l e rm_X8_reach s m args below meth c H locs 0 0 (MQ below (Qi0 1 D Y A r σ') args s 0 0 (FA 1 A)) (F0 m 222 ls []) := by
                intro x222_3 σ222_ H locs ls hW hl hf
                rw [f_X8_reach_j222] at hf
                refine lv_iload_n hx hb dX8_reach_222 rfl (lv_at hl 3 rfl) ?_
                refine lv_if_ne (tgt := 228) hx hb dX8_reach_223 (by decide) (fun q5 => ?_) (fun q5 => ?_)
                · rw [if_neg q5] at hf
                  refine lv_iconst (v := (0 : Int32)) hx hb dX8_reach_228 (by decide) ?_
                  refine lv_istore (lv' := [(4, .int (0 : Int32)), (0, .ref (A 0 7 0)), (1, .int p0), (2, .int x52_2), (3, .int x222_3)]) hx hb dX8_reach_229 hl (by decide) rfl (fun ls hl => ?_)
                  have J258 : ∀ (σ258_ : ss_M) (H : Heap) (locs : List Loc) (ls : Array Slot), sW 1 D Y A σ258_ s s.heap H locs → lv_has ls 7 [(0, .ref (A 0 7 0)), (1, .int p0), (2, .int x52_2)] → f_X8_reach_j258 x52_2 (f_X8_reach_L52 p0 (f_X8_reach_j264) n52) σ258_ = some (r, σ') → W p l e rm_X8_reach s m args below meth c H locs 0 0 (MQ below (Qi0 1 D Y A r σ') args s 0 0 (FA 1 A)) (F0 m 258 ls []) := by
                    intro σ258_ H locs ls hW hl hf
                    rw [f_X8_reach_j258] at hf
                    refine lv_iinc (v := (x52_2 + (1 : Int32))) (lv' := [(2, .int (x52_2 + (1 : Int32))), (0, .ref (A 0 7 0)), (1, .int p0)]) hx hb dX8_reach_258 hl (k := 2) rfl rfl (by decide) rfl (fun ls hl => ?_)
                    refine lv_goto (tgt := 52) hx hb dX8_reach_261 (by decide) ?_
                    exact ih52 (x52_2 + (1 : Int32)) σ258_ _ _ _ hW (lv_sub hl [1, 2, 0] rfl) hf
                  have L231 : ∀ (n231 : Nat), ∀ (x231_4 : Int32) (σ231_ : ss_M) (H : Heap) (locs : List Loc) (ls : Array Slot), sW 1 D Y A σ231_ s s.heap H locs → lv_has ls 7 [(0, .ref (A 0 7 0)), (1, .int p0), (2, .int x52_2), (4, .int x231_4)] → f_X8_reach_L231 (f_X8_reach_j258 x52_2 (f_X8_reach_L52 p0 (f_X8_reach_j264) n52)) n231 x231_4 σ231_ = some (r, σ') → W p l e rm_X8_reach s m args below meth c H locs 0 0 (MQ below (Qi0 1 D Y A r σ') args s 0 0 (FA 1 A)) (F0 m 231 ls []) := by
                    intro n231
                    induction n231 with
                    | zero =>
                      intro x231_4 σ231_ H locs ls hW hl hf
                      rw [f_X8_reach_L231] at hf
                      cases hf
                    | succ n231 ih231 =>
                      intro x231_4 σ231_ H locs ls hW hl hf
                      rw [f_X8_reach_L231] at hf
                      refine lv_iload hx hb dX8_reach_231 (lv_at hl 3 rfl) ?_
                      refine lv_bipush (v := (30 : Int32)) hx hb dX8_reach_233 (by decide) ?_
                      refine lv_icmp_gt (tgt := 258) hx hb dX8_reach_235 (by decide) (fun q6 => ?_) (fun q6 => ?_)
                      · rw [if_pos q6] at hf
                        exact J258 σ231_ _ _ _ hW (lv_sub hl [0, 1, 2] rfl) hf
                      · rw [if_neg q6] at hf
                        refine lv_aload_n hx hb dX8_reach_238 rfl (lv_at hl 0 rfl) ?_
                        refine gf_X8_paid hx hb hts hown hW (kS_in (by decide)) iX8 (List.mem_of_getElem? (i := 1) rfl) dX8_reach_239 ?_
                        refine lv_iload hx hb dX8_reach_242 (lv_at hl 3 rfl) ?_
                        refine lv_aload_n hx hb dX8_reach_244 rfl (lv_at hl 0 rfl) ?_
                        refine gf_X8_then hx hb hts hown hW (kS_in (by decide)) iX8 (List.mem_of_getElem? (i := 5) rfl) dX8_reach_245 ?_
                        refine lv_iload hx hb dX8_reach_248 (lv_at hl 3 rfl) ?_
                        obtain ⟨g7, hf⟩ := ss_if hf
                        refine ra_i hx hb hW (kS_in (by decide)) g7 dX8_reach_250 ?_
                        obtain ⟨g8, hf⟩ := ss_if hf
                        refine rs_i hx hb hW (kS_in (by decide)) g8 dX8_reach_251 (fun H locs hW => ?_)
                        refine lv_iinc (v := (x231_4 + (1 : Int32))) (lv' := [(4, .int (x231_4 + (1 : Int32))), (0, .ref (A 0 7 0)), (1, .int p0), (2, .int x52_2)]) hx hb dX8_reach_252 hl (k := 3) rfl rfl (by decide) rfl (fun ls hl => ?_)
                        refine lv_goto (tgt := 231) hx hb dX8_reach_255 (by decide) ?_
                        exact ih231 (x231_4 + (1 : Int32)) (sAu σ231_ 26 0 (upd (sA σ231_ 26 0) (x231_4).toNatClampNeg (sA σ231_ 27 0 (x231_4).toNatClampNeg))) _ _ _ hW (lv_sub hl [1, 2, 3, 0] rfl) hf
                  exact L231 FU (0 : Int32) σ222_ _ _ _ hW (lv_sub hl [1, 2, 3, 0] rfl) hf
                · rw [if_pos q5] at hf
                  refine lv_iload_n hx hb dX8_reach_226 rfl (lv_at hl 2 rfl) ?_
                  exact re_i hx hb hr hlocks hW (Option.some.inj hf) dX8_reach_227
              have L95 : ∀ (n95 : Nat), ∀ (x95_3 : Int32) (x95_4 : Int32) (σ95_ : ss_M) (H : Heap) (locs : List Loc) (ls : Array Slot), sW 1 D Y A σ95_ s s.heap H locs → lv_has ls 7 [(0, .ref (A 0 7 0)), (1, .int p0), (2, .int x52_2), (3, .int x95_3), (4, .int x95_4)] → f_X8_reach_L95 p0 x52_2 (f_X8_reach_j222 x52_2 (f_X8_reach_L52 p0 (f_X8_reach_j264) n52)) n95 x95_3 x95_4 σ95_ = some (r, σ') → W p l e rm_X8_reach s m args below meth c H locs 0 0 (MQ below (Qi0 1 D Y A r σ') args s 0 0 (FA 1 A)) (F0 m 95 ls []) := by
                intro n95
                induction n95 with
                | zero =>
                  intro x95_3 x95_4 σ95_ H locs ls hW hl hf
                  rw [f_X8_reach_L95] at hf
                  cases hf
                | succ n95 ih95 =>
                  intro x95_3 x95_4 σ95_ H locs ls hW hl hf
                  rw [f_X8_reach_L95] at hf
                  refine lv_iload hx hb dX8_reach_95 (lv_at hl 4 rfl) ?_
                  refine lv_aload_n hx hb dX8_reach_97 rfl (lv_at hl 0 rfl) ?_
                  refine gf_X8_breath hx hb hts hown hW (kS_in (by decide)) iX8 (List.mem_of_getElem? (i := 2) rfl) dX8_reach_98 ?_
                  refine lv_icmp_gt (tgt := 222) hx hb dX8_reach_101 (by decide) (fun q9 => ?_) (fun q9 => ?_)
                  · rw [if_pos q9] at hf
                    exact J222 x95_3 σ95_ _ _ _ hW (lv_sub hl [0, 1, 2, 3] rfl) hf
                  · rw [if_neg q9] at hf
                    refine lv_aload_n hx hb dX8_reach_104 rfl (lv_at hl 0 rfl) ?_
                    refine gf_X8_paid hx hb hts hown hW (kS_in (by decide)) iX8 (List.mem_of_getElem? (i := 1) rfl) dX8_reach_105 ?_
                    refine lv_iload hx hb dX8_reach_108 (lv_at hl 4 rfl) ?_
                    obtain ⟨g10, hf⟩ := ss_if hf
                    refine ra_i hx hb hW (kS_in (by decide)) g10 dX8_reach_110 ?_
                    refine lv_iload_n hx hb dX8_reach_111 rfl (lv_at hl 1 rfl) ?_
                    have J216 : ∀ (x216_3 : Int32) (σ216_ : ss_M) (H : Heap) (locs : List Loc) (ls : Array Slot), sW 1 D Y A σ216_ s s.heap H locs → lv_has ls 7 [(0, .ref (A 0 7 0)), (1, .int p0), (2, .int x52_2), (3, .int x216_3), (4, .int x95_4)] → f_X8_reach_j216 x95_4 (f_X8_reach_L95 p0 x52_2 (f_X8_reach_j222 x52_2 (f_X8_reach_L52 p0 (f_X8_reach_j264) n52)) n95) x216_3 σ216_ = some (r, σ') → W p l e rm_X8_reach s m args below meth c H locs 0 0 (MQ below (Qi0 1 D Y A r σ') args s 0 0 (FA 1 A)) (F0 m 216 ls []) := by
                      intro x216_3 σ216_ H locs ls hW hl hf
                      rw [f_X8_reach_j216] at hf
                      refine lv_iinc (v := (x95_4 + (1 : Int32))) (lv' := [(4, .int (x95_4 + (1 : Int32))), (0, .ref (A 0 7 0)), (1, .int p0), (2, .int x52_2), (3, .int x216_3)]) hx hb dX8_reach_216 hl (k := 4) rfl rfl (by decide) rfl (fun ls hl => ?_)
                      refine lv_goto (tgt := 95) hx hb dX8_reach_219 (by decide) ?_
                      exact ih95 x216_3 (x95_4 + (1 : Int32)) σ216_ _ _ _ hW (lv_sub hl [1, 2, 3, 4, 0] rfl) hf
                    refine lv_icmp_gt (tgt := 216) hx hb dX8_reach_112 (by decide) (fun q11 => ?_) (fun q11 => ?_)
                    · rw [if_pos q11] at hf
                      exact J216 x95_3 σ95_ _ _ _ hW (lv_sub hl [0, 1, 2, 3, 4] rfl) hf
                    · rw [if_neg q11] at hf
                      refine lv_iconst (v := (1 : Int32)) hx hb dX8_reach_115 (by decide) ?_
                      refine lv_istore_n (lv' := [(3, .int (1 : Int32)), (0, .ref (A 0 7 0)), (1, .int p0), (2, .int x52_2), (4, .int x95_4)]) hx hb dX8_reach_116 rfl hl (by decide) rfl (fun ls hl => ?_)
                      refine lv_iconst (v := (-1 : Int32)) hx hb dX8_reach_117 (by decide) ?_
                      refine lv_istore (lv' := [(5, .int (-1 : Int32)), (3, .int (1 : Int32)), (0, .ref (A 0 7 0)), (1, .int p0), (2, .int x52_2), (4, .int x95_4)]) hx hb dX8_reach_118 hl (by decide) rfl (fun ls hl => ?_)
                      have L120 : ∀ (n120 : Nat), ∀ (x120_5 : Int32) (σ120_ : ss_M) (H : Heap) (locs : List Loc) (ls : Array Slot), sW 1 D Y A σ120_ s s.heap H locs → lv_has ls 7 [(0, .ref (A 0 7 0)), (1, .int p0), (2, .int x52_2), (3, .int (1 : Int32)), (4, .int x95_4), (5, .int x120_5)] → f_X8_reach_L120 x52_2 x95_4 (f_X8_reach_j216 x95_4 (f_X8_reach_L95 p0 x52_2 (f_X8_reach_j222 x52_2 (f_X8_reach_L52 p0 (f_X8_reach_j264) n52)) n95)) n120 x120_5 σ120_ = some (r, σ') → W p l e rm_X8_reach s m args below meth c H locs 0 0 (MQ below (Qi0 1 D Y A r σ') args s 0 0 (FA 1 A)) (F0 m 120 ls []) := by
                        intro n120
                        induction n120 with
                        | zero =>
                          intro x120_5 σ120_ H locs ls hW hl hf
                          rw [f_X8_reach_L120] at hf
                          cases hf
                        | succ n120 ih120 =>
                          intro x120_5 σ120_ H locs ls hW hl hf
                          rw [f_X8_reach_L120] at hf
                          refine lv_iload hx hb dX8_reach_120 (lv_at hl 5 rfl) ?_
                          refine lv_aload_n hx hb dX8_reach_122 rfl (lv_at hl 0 rfl) ?_
                          refine lv_iload_n hx hb dX8_reach_123 rfl (lv_at hl 2 rfl) ?_
                          obtain ⟨r12, σ12, hf12, hf⟩ := ss_bd_some hf
                          refine rv_i S (c_X8_optionsAt l hAD  hf12) (cwV 1 hts gX8_reach_X8_optionsAt rfl rfl rfl hd_X8_optionsAt ⟨(Nat.le_of_ble_eq_true rfl), (Nat.le_of_ble_eq_true rfl)⟩) hW (kS_in (by decide)) rfl rfl rfl hl.1 (Nat.le_of_ble_eq_true rfl) ⟨Nat.zero_le _, Nat.zero_le _⟩ dX8_reach_124 (fun H locs hW => ?_)
                          refine lv_icmp_ge (tgt := 216) hx hb dX8_reach_127 (by decide) (fun q13 => ?_) (fun q13 => ?_)
                          · rw [if_pos q13] at hf
                            exact J216 (1 : Int32) σ12 _ _ _ hW (lv_sub hl [0, 1, 2, 3, 4] rfl) hf
                          · rw [if_neg q13] at hf
                            refine lv_aload_n hx hb dX8_reach_130 rfl (lv_at hl 0 rfl) ?_
                            refine gf_X8_kinds hx hb hts hown hW (kS_in (by decide)) iX8 (List.mem_of_getElem? (i := 7) rfl) dX8_reach_131 ?_
                            refine lv_iload_n hx hb dX8_reach_134 rfl (lv_at hl 2 rfl) ?_
                            obtain ⟨g14, hf⟩ := ss_if hf
                            refine ra_i hx hb hW (kS_in (by decide)) g14 dX8_reach_135 ?_
                            refine lv_iconst (v := (-1 : Int32)) hx hb dX8_reach_136 (by decide) ?_
                            have J151 : ∀ (s151_0 : Int32) (σ151_ : ss_M) (H : Heap) (locs : List Loc) (ls : Array Slot), sW 1 D Y A σ151_ s s.heap H locs → lv_has ls 7 [(0, .ref (A 0 7 0)), (1, .int p0), (2, .int x52_2), (3, .int (1 : Int32)), (4, .int x95_4), (5, .int x120_5)] → f_X8_reach_j151 x52_2 x95_4 x120_5 (f_X8_reach_L120 x52_2 x95_4 (f_X8_reach_j216 x95_4 (f_X8_reach_L95 p0 x52_2 (f_X8_reach_j222 x52_2 (f_X8_reach_L52 p0 (f_X8_reach_j264) n52)) n95)) n120) s151_0 σ151_ = some (r, σ') → W p l e rm_X8_reach s m args below meth c H locs 0 0 (MQ below (Qi0 1 D Y A r σ') args s 0 0 (FA 1 A)) (F0 m 151 ls [.int s151_0]) := by
                              intro s151_0 σ151_ H locs ls hW hl hf
                              rw [f_X8_reach_j151] at hf
                              refine lv_iload hx hb dX8_reach_151 (lv_at hl 4 rfl) ?_
                              refine lv_aload_n hx hb dX8_reach_153 rfl (lv_at hl 0 rfl) ?_
                              refine gf_X8_lengths hx hb hts hown hW (kS_in (by decide)) iX8 (List.mem_of_getElem? (i := 6) rfl) dX8_reach_154 ?_
                              refine lv_iload_n hx hb dX8_reach_157 rfl (lv_at hl 2 rfl) ?_
                              obtain ⟨g15, hf⟩ := ss_if hf
                              refine ra_i hx hb hW (kS_in (by decide)) g15 dX8_reach_158 ?_
                              refine lv_isub hx hb dX8_reach_159 ?_
                              refine lv_aload_n hx hb dX8_reach_160 rfl (lv_at hl 0 rfl) ?_
                              refine gf_X8_breath hx hb hts hown hW (kS_in (by decide)) iX8 (List.mem_of_getElem? (i := 2) rfl) dX8_reach_161 ?_
                              obtain ⟨r16, σ16, hf16, hf⟩ := ss_bd_some hf
                              refine rt_i S (c_X8_givenBy l hAD  hf16) (va_cwS 3 hts gX8_reach_X8_givenBy rfl rfl rfl hd_X8_givenBy ⟨(Nat.le_of_ble_eq_true rfl), (Nat.le_of_ble_eq_true rfl)⟩) hW rfl rfl hl.1 (Nat.le_of_ble_eq_true rfl) ⟨Nat.zero_le _, Nat.zero_le _⟩ dX8_reach_164 (fun H locs hW => ?_)
                              refine lv_istore (lv' := [(6, .int r16), (0, .ref (A 0 7 0)), (1, .int p0), (2, .int x52_2), (3, .int (1 : Int32)), (4, .int x95_4), (5, .int x120_5)]) hx hb dX8_reach_167 hl (by decide) rfl (fun ls hl => ?_)
                              refine lv_aload_n hx hb dX8_reach_169 rfl (lv_at hl 1 rfl) ?_
                              refine gf_X8_then hx hb hts hown hW (kS_in (by decide)) iX8 (List.mem_of_getElem? (i := 5) rfl) dX8_reach_170 ?_
                              refine lv_iload hx hb dX8_reach_173 (lv_at hl 0 rfl) ?_
                              refine lv_aload_n hx hb dX8_reach_175 rfl (lv_at hl 1 rfl) ?_
                              refine gf_X8_then hx hb hts hown hW (kS_in (by decide)) iX8 (List.mem_of_getElem? (i := 5) rfl) dX8_reach_176 ?_
                              refine lv_iload hx hb dX8_reach_179 (lv_at hl 0 rfl) ?_
                              obtain ⟨g17, hf⟩ := ss_if hf
                              refine ra_i hx hb hW (kS_in (by decide)) g17 dX8_reach_181 ?_
                              refine lv_aload_n hx hb dX8_reach_182 rfl (lv_at hl 1 rfl) ?_
                              refine gf_X8_paid hx hb hts hown hW (kS_in (by decide)) iX8 (List.mem_of_getElem? (i := 1) rfl) dX8_reach_183 ?_
                              refine lv_iload hx hb dX8_reach_186 (lv_at hl 5 rfl) ?_
                              obtain ⟨g18, hf⟩ := ss_if hf
                              refine ra_i hx hb hW (kS_in (by decide)) g18 dX8_reach_188 ?_
                              refine lv_iload hx hb dX8_reach_189 (lv_at hl 6 rfl) ?_
                              refine lv_iconst (v := (-1 : Int32)) hx hb dX8_reach_191 (by decide) ?_
                              have J205 : ∀ (s205_0 : Int32) (σ205_ : ss_M) (H : Heap) (locs : List Loc) (ls : Array Slot), sW 1 D Y A σ205_ s s.heap H locs → lv_has ls 7 [(0, .ref (A 0 7 0)), (1, .int p0), (2, .int x52_2), (3, .int (1 : Int32)), (4, .int x95_4), (5, .int x120_5)] → f_X8_reach_j205 x95_4 x120_5 (f_X8_reach_L120 x52_2 x95_4 (f_X8_reach_j216 x95_4 (f_X8_reach_L95 p0 x52_2 (f_X8_reach_j222 x52_2 (f_X8_reach_L52 p0 (f_X8_reach_j264) n52)) n95)) n120) r16 σ16 s205_0 σ205_ = some (r, σ') → W p l e rm_X8_reach s m args below meth c H locs 0 0 (MQ below (Qi0 1 D Y A r σ') args s 0 0 (FA 1 A)) (F0 m 205 ls [.int s205_0, .int (sA σ16 26 0 (x95_4).toNatClampNeg), .int (sA σ16 27 0 (r16).toNatClampNeg), .int r16, .ref (A 1 27 0)]) := by
                                intro s205_0 σ205_ H locs ls hW hl hf
                                rw [f_X8_reach_j205] at hf
                                refine lv_iadd hx hb dX8_reach_205 ?_
                                obtain ⟨r19, σ19, hf19, hf⟩ := ss_bd_some hf
                                refine rt_i S (c_X8_lesser l hAD  hf19) (va_cwS 2 hts gX8_reach_X8_lesser rfl rfl rfl hd_X8_lesser ⟨(Nat.le_of_ble_eq_true rfl), (Nat.le_of_ble_eq_true rfl)⟩) hW rfl rfl hl.1 (Nat.le_of_ble_eq_true rfl) ⟨Nat.zero_le _, Nat.zero_le _⟩ dX8_reach_206 (fun H locs hW => ?_)
                                obtain ⟨g20, hf⟩ := ss_if hf
                                refine rs_i hx hb hW (kS_in (by decide)) g20 dX8_reach_209 (fun H locs hW => ?_)
                                refine lv_iinc (v := (x120_5 + (1 : Int32))) (lv' := [(5, .int (x120_5 + (1 : Int32))), (0, .ref (A 0 7 0)), (1, .int p0), (2, .int x52_2), (3, .int (1 : Int32)), (4, .int x95_4)]) hx hb dX8_reach_210 hl (k := 5) rfl rfl (by decide) rfl (fun ls hl => ?_)
                                refine lv_goto (tgt := 120) hx hb dX8_reach_213 (by decide) ?_
                                exact ih120 (x120_5 + (1 : Int32)) (sAu σ19 27 0 (upd (sA σ19 27 0) (r16).toNatClampNeg r19)) _ _ _ hW (lv_sub hl [1, 2, 3, 4, 5, 0] rfl) hf
                              refine lv_icmp_ne (tgt := 199) hx hb dX8_reach_192 (by decide) (fun q21 => ?_) (fun q21 => ?_)
                              · rw [if_neg q21] at hf
                                refine lv_aload_n hx hb dX8_reach_199 rfl (lv_at hl 1 rfl) ?_
                                refine lv_iload hx hb dX8_reach_200 (lv_at hl 6 rfl) ?_
                                obtain ⟨r22, σ22, hf22, hf⟩ := ss_bd_some hf
                                refine rv_i S (c_X8_costOf l hAD  hf22) (cwV 1 hts gX8_reach_X8_costOf rfl rfl rfl hd_X8_costOf ⟨(Nat.le_of_ble_eq_true rfl), (Nat.le_of_ble_eq_true rfl)⟩) hW (kS_in (by decide)) rfl rfl rfl hl.1 (Nat.le_of_ble_eq_true rfl) ⟨Nat.zero_le _, Nat.zero_le _⟩ dX8_reach_202 (fun H locs hW => ?_)
                                exact J205 r22 σ22 _ _ _ hW (lv_sub hl [1, 2, 3, 4, 5, 6] rfl) hf
                              · rw [if_pos q21] at hf
                                refine lv_iconst (v := (0 : Int32)) hx hb dX8_reach_195 (by decide) ?_
                                refine lv_goto (tgt := 205) hx hb dX8_reach_196 (by decide) ?_
                                exact J205 (0 : Int32) σ16 _ _ _ hW (lv_sub hl [1, 2, 3, 4, 5, 6] rfl) hf
                            refine lv_icmp_eq (tgt := 149) hx hb dX8_reach_137 (by decide) (fun q23 => ?_) (fun q23 => ?_)
                            · rw [if_pos q23] at hf
                              refine lv_iload hx hb dX8_reach_149 (lv_at hl 5 rfl) ?_
                              exact J151 x120_5 σ12 _ _ _ hW (lv_sub hl [0, 1, 2, 3, 4, 5] rfl) hf
                            · rw [if_neg q23] at hf
                              refine lv_aload_n hx hb dX8_reach_140 rfl (lv_at hl 0 rfl) ?_
                              refine gf_X8_kinds hx hb hts hown hW (kS_in (by decide)) iX8 (List.mem_of_getElem? (i := 7) rfl) dX8_reach_141 ?_
                              refine lv_iload_n hx hb dX8_reach_144 rfl (lv_at hl 2 rfl) ?_
                              obtain ⟨g24, hf⟩ := ss_if hf
                              refine ra_i hx hb hW (kS_in (by decide)) g24 dX8_reach_145 ?_
                              refine lv_goto (tgt := 151) hx hb dX8_reach_146 (by decide) ?_
                              exact J151 (sA σ12 18 0 (x52_2).toNatClampNeg) σ12 _ _ _ hW (lv_sub hl [0, 1, 2, 3, 4, 5] rfl) hf
                      exact L120 FU (-1 : Int32) σ95_ _ _ _ hW (lv_sub hl [2, 3, 4, 1, 5, 0] rfl) hf
              exact L95 FU (0 : Int32) (sA σ87_ 17 0 (x52_2).toNatClampNeg) σ87_ _ _ _ hW (lv_sub hl [1, 2, 3, 4, 0] rfl) hf
            have L65 : ∀ (n65 : Nat), ∀ (x65_4 : Int32) (σ65_ : ss_M) (H : Heap) (locs : List Loc) (ls : Array Slot), sW 1 D Y A σ65_ s s.heap H locs → lv_has ls 7 [(0, .ref (A 0 7 0)), (1, .int p0), (2, .int x52_2), (3, .int (0 : Int32)), (4, .int x65_4)] → f_X8_reach_L65 (f_X8_reach_j87 p0 x52_2 (f_X8_reach_L52 p0 (f_X8_reach_j264) n52)) n65 x65_4 σ65_ = some (r, σ') → W p l e rm_X8_reach s m args below meth c H locs 0 0 (MQ below (Qi0 1 D Y A r σ') args s 0 0 (FA 1 A)) (F0 m 65 ls []) := by
              intro n65
              induction n65 with
              | zero =>
                intro x65_4 σ65_ H locs ls hW hl hf
                rw [f_X8_reach_L65] at hf
                cases hf
              | succ n65 ih65 =>
                intro x65_4 σ65_ H locs ls hW hl hf
                rw [f_X8_reach_L65] at hf
                refine lv_iload hx hb dX8_reach_65 (lv_at hl 4 rfl) ?_
                refine lv_bipush (v := (30 : Int32)) hx hb dX8_reach_67 (by decide) ?_
                refine lv_icmp_gt (tgt := 87) hx hb dX8_reach_69 (by decide) (fun q25 => ?_) (fun q25 => ?_)
                · rw [if_pos q25] at hf
                  exact J87 σ65_ _ _ _ hW (lv_sub hl [0, 1, 2, 3] rfl) hf
                · rw [if_neg q25] at hf
                  refine lv_aload_n hx hb dX8_reach_72 rfl (lv_at hl 0 rfl) ?_
                  refine gf_X8_then hx hb hts hown hW (kS_in (by decide)) iX8 (List.mem_of_getElem? (i := 5) rfl) dX8_reach_73 ?_
                  refine lv_iload hx hb dX8_reach_76 (lv_at hl 4 rfl) ?_
                  refine lv_ldc hx hb hown (hts _ (List.mem_of_getElem? (i := 3) rfl)) dX8_reach_78 ?_
                  obtain ⟨g26, hf⟩ := ss_if hf
                  refine rs_i hx hb hW (kS_in (by decide)) g26 dX8_reach_80 (fun H locs hW => ?_)
                  refine lv_iinc (v := (x65_4 + (1 : Int32))) (lv' := [(4, .int (x65_4 + (1 : Int32))), (0, .ref (A 0 7 0)), (1, .int p0), (2, .int x52_2), (3, .int (0 : Int32))]) hx hb dX8_reach_81 hl (k := 4) rfl rfl (by decide) rfl (fun ls hl => ?_)
                  refine lv_goto (tgt := 65) hx hb dX8_reach_84 (by decide) ?_
                  exact ih65 (x65_4 + (1 : Int32)) (sAu σ65_ 27 0 (upd (sA σ65_ 27 0) (x65_4).toNatClampNeg (1048576 : Int32))) _ _ _ hW (lv_sub hl [1, 2, 3, 4, 0] rfl) hf
            exact L65 FU (0 : Int32) σ52_ _ _ _ hW (lv_sub hl [2, 3, 4, 1, 0] rfl) hf
      exact L52 FU (0 : Int32) σ50_ _ _ _ hW (lv_sub hl [1, 2, 0] rfl) hf
    have L18 : ∀ (n18 : Nat), ∀ (x18_2 : Int32) (σ18_ : ss_M) (H : Heap) (locs : List Loc) (ls : Array Slot), sW 1 D Y A σ18_ s s.heap H locs → lv_has ls 7 [(0, .ref (A 0 7 0)), (1, .int p0), (2, .int x18_2)] → f_X8_reach_L18 (f_X8_reach_j50 p0) n18 x18_2 σ18_ = some (r, σ') → W p l e rm_X8_reach s m args below meth c H locs 0 0 (MQ below (Qi0 1 D Y A r σ') args s 0 0 (FA 1 A)) (F0 m 18 ls []) := by
      intro n18
      induction n18 with
      | zero =>
        intro x18_2 σ18_ H locs ls hW hl hf
        rw [f_X8_reach_L18] at hf
        cases hf
      | succ n18 ih18 =>
        intro x18_2 σ18_ H locs ls hW hl hf
        rw [f_X8_reach_L18] at hf
        refine lv_iload_n hx hb dX8_reach_18 rfl (lv_at hl 2 rfl) ?_
        refine lv_bipush (v := (30 : Int32)) hx hb dX8_reach_19 (by decide) ?_
        refine lv_icmp_gt (tgt := 50) hx hb dX8_reach_21 (by decide) (fun q27 => ?_) (fun q27 => ?_)
        · rw [if_pos q27] at hf
          exact J50 σ18_ _ _ _ hW (lv_sub hl [0, 1] rfl) hf
        · rw [if_neg q27] at hf
          refine lv_aload_n hx hb dX8_reach_24 rfl (lv_at hl 0 rfl) ?_
          refine gf_X8_paid hx hb hts hown hW (kS_in (by decide)) iX8 (List.mem_of_getElem? (i := 1) rfl) dX8_reach_25 ?_
          refine lv_iload_n hx hb dX8_reach_28 rfl (lv_at hl 2 rfl) ?_
          refine lv_iload_n hx hb dX8_reach_29 rfl (lv_at hl 2 rfl) ?_
          refine lv_aload_n hx hb dX8_reach_30 rfl (lv_at hl 0 rfl) ?_
          refine gf_X8_breath hx hb hts hown hW (kS_in (by decide)) iX8 (List.mem_of_getElem? (i := 2) rfl) dX8_reach_31 ?_
          have J43 : ∀ (s43_0 : Int32) (σ43_ : ss_M) (H : Heap) (locs : List Loc) (ls : Array Slot), sW 1 D Y A σ43_ s s.heap H locs → lv_has ls 7 [(0, .ref (A 0 7 0)), (1, .int p0), (2, .int x18_2)] → f_X8_reach_j43 x18_2 (f_X8_reach_L18 (f_X8_reach_j50 p0) n18) s43_0 σ43_ = some (r, σ') → W p l e rm_X8_reach s m args below meth c H locs 0 0 (MQ below (Qi0 1 D Y A r σ') args s 0 0 (FA 1 A)) (F0 m 43 ls [.int s43_0, .int x18_2, .ref (A 1 26 0)]) := by
            intro s43_0 σ43_ H locs ls hW hl hf
            rw [f_X8_reach_j43] at hf
            obtain ⟨g28, hf⟩ := ss_if hf
            refine rs_i hx hb hW (kS_in (by decide)) g28 dX8_reach_43 (fun H locs hW => ?_)
            refine lv_iinc (v := (x18_2 + (1 : Int32))) (lv' := [(2, .int (x18_2 + (1 : Int32))), (0, .ref (A 0 7 0)), (1, .int p0)]) hx hb dX8_reach_44 hl (k := 2) rfl rfl (by decide) rfl (fun ls hl => ?_)
            refine lv_goto (tgt := 18) hx hb dX8_reach_47 (by decide) ?_
            exact ih18 (x18_2 + (1 : Int32)) (sAu σ43_ 26 0 (upd (sA σ43_ 26 0) (x18_2).toNatClampNeg s43_0)) _ _ _ hW (lv_sub hl [1, 2, 0] rfl) hf
          refine lv_icmp_ne (tgt := 41) hx hb dX8_reach_34 (by decide) (fun q29 => ?_) (fun q29 => ?_)
          · rw [if_neg q29] at hf
            refine lv_ldc hx hb hown (hts _ (List.mem_of_getElem? (i := 3) rfl)) dX8_reach_41 ?_
            exact J43 (1048576 : Int32) σ18_ _ _ _ hW (lv_sub hl [0, 1, 2] rfl) hf
          · rw [if_pos q29] at hf
            refine lv_iconst (v := (0 : Int32)) hx hb dX8_reach_37 (by decide) ?_
            refine lv_goto (tgt := 43) hx hb dX8_reach_38 (by decide) ?_
            exact J43 (0 : Int32) σ18_ _ _ _ hW (lv_sub hl [0, 1, 2] rfl) hf
    exact L18 FU (0 : Int32) σ1 _ _ _ hW (lv_sub hl [1, 2, 0] rfl) hf
  · rw [if_pos q2] at hf
    refine lv_aload_n hx hb dX8_reach_11 rfl (lv_at hl 0 rfl) ?_
    obtain ⟨r30, σ30, hf30, hf⟩ := ss_bd_some hf
    refine rv_i S (c_X8_bad l hAD  hf30) (cwV 0 hts gX8_reach_X8_bad rfl rfl rfl hd_X8_bad ⟨(Nat.le_of_ble_eq_true rfl), (Nat.le_of_ble_eq_true rfl)⟩) hW (kS_in (by decide)) rfl rfl rfl hl.1 (Nat.le_of_ble_eq_true rfl) ⟨Nat.zero_le _, Nat.zero_le _⟩ dX8_reach_12 (fun H locs hW => ?_)
    exact re_i hx hb hr hlocks hW (Option.some.inj hf) dX8_reach_15
def f_X8_readBy_j57 (σ57_ : ss_M) : Option (Int32 × ss_M) :=
  some ((sG σ57_ 17 0), σ57_)
def f_X8_readBy_L7 (k7_57 : ss_M → Option (Int32 × ss_M)) : Nat → Int32 → Int32 → ss_M → Option (Int32 × ss_M)
  | 0, _, _, _ => none
  | n7 + 1, x7_1, x7_2, σ7_ => if (sG σ7_ 17 0) ≤ x7_2 then (k7_57 σ7_) else (if gd x7_2 7 = true then (if gd (sA σ7_ 28 0 (x7_2).toNatClampNeg) 12 = true then (if (sA σ7_ 17 0 ((sA σ7_ 28 0 (x7_2).toNatClampNeg)).toNatClampNeg) ≤ x7_1 then (if gd x7_2 12 = true then (ss_bd (f_X8_givenBy (sA σ7_ 18 0 (x7_2).toNatClampNeg) (x7_1 - (sA σ7_ 17 0 ((sA σ7_ 28 0 (x7_2).toNatClampNeg)).toNatClampNeg)) (sG σ7_ 18 0) σ7_) (fun r6 σ6 => (f_X8_readBy_L7 k7_57 n7) r6 (x7_2 + (1 : Int32)) σ6)) else none) else (some (x7_2, σ7_))) else none) else none)
def f_X8_readBy (σ : ss_M) : Option (Int32 × ss_M) :=
  f_X8_readBy_L7 (f_X8_readBy_j57) FU (sG σ 18 0) (0 : Int32) σ
def rm_X8_readBy : Room := { frames := 4, cells := 0, slots := 0, locals := 200 }
theorem hd_X8_readBy : yX8_readBy.cls = RX8 ∧ yX8_readBy.cls ≠ "java/lang/invoke/MethodHandle" ∧ yX8_readBy.cls ≠ "java/lang/invoke/VarHandle" ∧ (parseMethodDescriptor yX8_readBy.desc).map (fun d => d.parameters.length) = some 0 := by decide +kernel
set_option maxHeartbeats 4000000 in
set_option maxRecDepth 100000 in
theorem c_X8_readBy (l : Launch) {D : va_G} {Y : Nat → ClassId} {A : ss_A} (hAD : AD 1 A)   {r : Int32} {σ σ' : ss_M} (hf : f_X8_readBy σ = some (r, σ')) : Met l yX8_readBy wsX8_readBy rm_X8_readBy (Pc0 1 D Y A σ [.ref (A 0 7 0)]) (Qi0 1 D Y A r σ') 0 0 (FA 1 A) := by
  rw [f_X8_readBy] at hf
  refine Met0 (cc := cX8_readBy) (maxL := 4) (ret := (some .int)) (own := RX8) (by decide +kernel) rfl hAD rfl (Nat.le_of_ble_eq_true rfl) ?_
  intro p e s m args below meth c S hr hlocks hW ls hl
  obtain ⟨hx, hb, hml, hown, hts⟩ := id S
  have iX8 : ∀ q ∈ wsX80, q ∈ wsX8_readBy := fun q h => List.mem_cons_of_mem _ (List.mem_append_right _ (h))
  have hl : lv_has ls 4 [(0, .ref (A 0 7 0))] := hl
  refine lv_aload_n hx hb dX8_readBy_0 rfl (lv_at hl 0 rfl) ?_
  refine gf_X8_breath hx hb hts hown hW (kS_in (by decide)) iX8 (List.mem_of_getElem? (i := 1) rfl) dX8_readBy_1 ?_
  refine lv_istore_n (lv' := [(1, .int (sG σ 18 0)), (0, .ref (A 0 7 0))]) hx hb dX8_readBy_4 rfl hl (by decide) rfl (fun ls hl => ?_)
  refine lv_iconst (v := (0 : Int32)) hx hb dX8_readBy_5 (by decide) ?_
  refine lv_istore_n (lv' := [(2, .int (0 : Int32)), (1, .int (sG σ 18 0)), (0, .ref (A 0 7 0))]) hx hb dX8_readBy_6 rfl hl (by decide) rfl (fun ls hl => ?_)
  have J57 : ∀ (σ57_ : ss_M) (H : Heap) (locs : List Loc) (ls : Array Slot), sW 1 D Y A σ57_ s s.heap H locs → lv_has ls 4 [(0, .ref (A 0 7 0))] → f_X8_readBy_j57 σ57_ = some (r, σ') → W p l e rm_X8_readBy s m args below meth c H locs 0 0 (MQ below (Qi0 1 D Y A r σ') args s 0 0 (FA 1 A)) (F0 m 57 ls []) := by
    intro σ57_ H locs ls hW hl hf
    rw [f_X8_readBy_j57] at hf
    refine lv_aload_n hx hb dX8_readBy_57 rfl (lv_at hl 0 rfl) ?_
    refine gf_X8_many hx hb hts hown hW (kS_in (by decide)) iX8 (List.mem_of_getElem? (i := 2) rfl) dX8_readBy_58 ?_
    exact re_i hx hb hr hlocks hW (Option.some.inj hf) dX8_readBy_61
  have L7 : ∀ (n7 : Nat), ∀ (x7_1 : Int32) (x7_2 : Int32) (σ7_ : ss_M) (H : Heap) (locs : List Loc) (ls : Array Slot), sW 1 D Y A σ7_ s s.heap H locs → lv_has ls 4 [(0, .ref (A 0 7 0)), (1, .int x7_1), (2, .int x7_2)] → f_X8_readBy_L7 (f_X8_readBy_j57) n7 x7_1 x7_2 σ7_ = some (r, σ') → W p l e rm_X8_readBy s m args below meth c H locs 0 0 (MQ below (Qi0 1 D Y A r σ') args s 0 0 (FA 1 A)) (F0 m 7 ls []) := by
    intro n7
    induction n7 with
    | zero =>
      intro x7_1 x7_2 σ7_ H locs ls hW hl hf
      rw [f_X8_readBy_L7] at hf
      cases hf
    | succ n7 ih7 =>
      intro x7_1 x7_2 σ7_ H locs ls hW hl hf
      rw [f_X8_readBy_L7] at hf
      refine lv_iload_n hx hb dX8_readBy_7 rfl (lv_at hl 2 rfl) ?_
      refine lv_aload_n hx hb dX8_readBy_8 rfl (lv_at hl 0 rfl) ?_
      refine gf_X8_many hx hb hts hown hW (kS_in (by decide)) iX8 (List.mem_of_getElem? (i := 2) rfl) dX8_readBy_9 ?_
      refine lv_icmp_ge (tgt := 57) hx hb dX8_readBy_12 (by decide) (fun q1 => ?_) (fun q1 => ?_)
      · rw [if_pos q1] at hf
        exact J57 σ7_ _ _ _ hW (lv_sub hl [0] rfl) hf
      · rw [if_neg q1] at hf
        refine lv_aload_n hx hb dX8_readBy_15 rfl (lv_at hl 0 rfl) ?_
        refine gf_X8_lengths hx hb hts hown hW (kS_in (by decide)) iX8 (List.mem_of_getElem? (i := 3) rfl) dX8_readBy_16 ?_
        refine lv_aload_n hx hb dX8_readBy_19 rfl (lv_at hl 0 rfl) ?_
        refine gf_X8_line hx hb hts hown hW (kS_in (by decide)) iX8 (List.mem_of_getElem? (i := 4) rfl) dX8_readBy_20 ?_
        refine lv_iload_n hx hb dX8_readBy_23 rfl (lv_at hl 2 rfl) ?_
        obtain ⟨g2, hf⟩ := ss_if hf
        refine ra_i hx hb hW (kS_in (by decide)) g2 dX8_readBy_24 ?_
        obtain ⟨g3, hf⟩ := ss_if hf
        refine ra_i hx hb hW (kS_in (by decide)) g3 dX8_readBy_25 ?_
        refine lv_istore_n (lv' := [(3, .int (sA σ7_ 17 0 ((sA σ7_ 28 0 (x7_2).toNatClampNeg)).toNatClampNeg)), (0, .ref (A 0 7 0)), (1, .int x7_1), (2, .int x7_2)]) hx hb dX8_readBy_26 rfl hl (by decide) rfl (fun ls hl => ?_)
        refine lv_iload_n hx hb dX8_readBy_27 rfl (lv_at hl 0 rfl) ?_
        refine lv_iload_n hx hb dX8_readBy_28 rfl (lv_at hl 2 rfl) ?_
        refine lv_icmp_le (tgt := 34) hx hb dX8_readBy_29 (by decide) (fun q4 => ?_) (fun q4 => ?_)
        · rw [if_pos q4] at hf
          refine lv_aload_n hx hb dX8_readBy_34 rfl (lv_at hl 1 rfl) ?_
          refine gf_X8_kinds hx hb hts hown hW (kS_in (by decide)) iX8 (List.mem_of_getElem? (i := 5) rfl) dX8_readBy_35 ?_
          refine lv_iload_n hx hb dX8_readBy_38 rfl (lv_at hl 3 rfl) ?_
          obtain ⟨g5, hf⟩ := ss_if hf
          refine ra_i hx hb hW (kS_in (by decide)) g5 dX8_readBy_39 ?_
          refine lv_iload_n hx hb dX8_readBy_40 rfl (lv_at hl 2 rfl) ?_
          refine lv_iload_n hx hb dX8_readBy_41 rfl (lv_at hl 0 rfl) ?_
          refine lv_isub hx hb dX8_readBy_42 ?_
          refine lv_aload_n hx hb dX8_readBy_43 rfl (lv_at hl 1 rfl) ?_
          refine gf_X8_breath hx hb hts hown hW (kS_in (by decide)) iX8 (List.mem_of_getElem? (i := 1) rfl) dX8_readBy_44 ?_
          obtain ⟨r6, σ6, hf6, hf⟩ := ss_bd_some hf
          refine rt_i S (c_X8_givenBy l hAD  hf6) (va_cwS 3 hts gX8_readBy_X8_givenBy rfl rfl rfl hd_X8_givenBy ⟨(Nat.le_of_ble_eq_true rfl), (Nat.le_of_ble_eq_true rfl)⟩) hW rfl rfl hl.1 (Nat.le_of_ble_eq_true rfl) ⟨Nat.zero_le _, Nat.zero_le _⟩ dX8_readBy_47 (fun H locs hW => ?_)
          refine lv_istore_n (lv' := [(1, .int r6), (3, .int (sA σ7_ 17 0 ((sA σ7_ 28 0 (x7_2).toNatClampNeg)).toNatClampNeg)), (0, .ref (A 0 7 0)), (2, .int x7_2)]) hx hb dX8_readBy_50 rfl hl (by decide) rfl (fun ls hl => ?_)
          refine lv_iinc (v := (x7_2 + (1 : Int32))) (lv' := [(2, .int (x7_2 + (1 : Int32))), (1, .int r6), (3, .int (sA σ7_ 17 0 ((sA σ7_ 28 0 (x7_2).toNatClampNeg)).toNatClampNeg)), (0, .ref (A 0 7 0))]) hx hb dX8_readBy_51 hl (k := 3) rfl rfl (by decide) rfl (fun ls hl => ?_)
          refine lv_goto (tgt := 7) hx hb dX8_readBy_54 (by decide) ?_
          exact ih7 r6 (x7_2 + (1 : Int32)) σ6 _ _ _ hW (lv_sub hl [3, 1, 0] rfl) hf
        · rw [if_neg q4] at hf
          refine lv_iload_n hx hb dX8_readBy_32 rfl (lv_at hl 3 rfl) ?_
          exact re_i hx hb hr hlocks hW (Option.some.inj hf) dX8_readBy_33
  exact L7 FU (sG σ 18 0) (0 : Int32) σ _ _ _ hW (lv_sub hl [2, 1, 0] rfl) hf
def f_X8_nextLine_L107 : Nat → Int32 → Int32 → ss_M → Option (Int32 × ss_M)
  | 0, _, _, _ => none
  | n107 + 1, x107_4, x107_5, σ107_ => if x107_5 ≤ x107_4 then (some ((1 : Int32), σ107_)) else (if gd x107_4 7 = true then (if gd x107_5 7 = true then (if gd x107_4 7 = true then (if gd x107_5 7 = true then (ss_let (sAu (sAu σ107_ 28 0 (upd (sA σ107_ 28 0) (x107_4).toNatClampNeg (sA σ107_ 28 0 (x107_5).toNatClampNeg))) 28 0 (upd (sA (sAu σ107_ 28 0 (upd (sA σ107_ 28 0) (x107_4).toNatClampNeg (sA σ107_ 28 0 (x107_5).toNatClampNeg))) 28 0) (x107_5).toNatClampNeg (sA σ107_ 28 0 (x107_4).toNatClampNeg))) (fun σm12 => (f_X8_nextLine_L107 n107) (x107_4 + (1 : Int32)) (x107_5 + (-1 : Int32)) σm12)) else none) else none) else none) else none)
def f_X8_nextLine_j68 (x34_1 : Int32) (x68_2 : Int32) (σ68_ : ss_M) : Option (Int32 × ss_M) :=
  if gd x34_1 7 = true then (if gd x68_2 7 = true then (if gd x34_1 7 = true then (if gd x68_2 7 = true then (ss_let (sAu (sAu σ68_ 28 0 (upd (sA σ68_ 28 0) (x34_1).toNatClampNeg (sA σ68_ 28 0 (x68_2).toNatClampNeg))) 28 0 (upd (sA (sAu σ68_ 28 0 (upd (sA σ68_ 28 0) (x34_1).toNatClampNeg (sA σ68_ 28 0 (x68_2).toNatClampNeg))) 28 0) (x68_2).toNatClampNeg (sA σ68_ 28 0 (x34_1).toNatClampNeg))) (fun σm6 => f_X8_nextLine_L107 FU (x34_1 + (1 : Int32)) ((sG σm6 17 0) - (1 : Int32)) σm6)) else none) else none) else none) else none
def f_X8_nextLine_L47 (x34_1 : Int32) (k47_68 : Int32 → ss_M → Option (Int32 × ss_M)) : Nat → Int32 → ss_M → Option (Int32 × ss_M)
  | 0, _, _ => none
  | n47 + 1, x47_2, σ47_ => if gd x47_2 7 = true then (if gd x34_1 7 = true then (if (sA σ47_ 28 0 (x34_1).toNatClampNeg) ≤ (sA σ47_ 28 0 (x47_2).toNatClampNeg) then (k47_68 x47_2 σ47_) else ((f_X8_nextLine_L47 x34_1 k47_68 n47) (x47_2 + (-1 : Int32)) σ47_)) else none) else none
def f_X8_nextLine_j34 (x34_1 : Int32) (σ34_ : ss_M) : Option (Int32 × ss_M) :=
  if (0 : Int32) ≤ x34_1 then (f_X8_nextLine_L47 x34_1 (f_X8_nextLine_j68 x34_1) FU ((sG σ34_ 17 0) - (1 : Int32)) σ34_) else (some ((0 : Int32), σ34_))
def f_X8_nextLine_L7 (k7_34 : Int32 → ss_M → Option (Int32 × ss_M)) : Nat → Int32 → ss_M → Option (Int32 × ss_M)
  | 0, _, _ => none
  | n7 + 1, x7_1, σ7_ => if x7_1 < (0 : Int32) then (k7_34 x7_1 σ7_) else (if gd x7_1 7 = true then (if gd (x7_1 + (1 : Int32)) 7 = true then (if (sA σ7_ 28 0 (x7_1).toNatClampNeg) ≤ (sA σ7_ 28 0 ((x7_1 + (1 : Int32))).toNatClampNeg) then (k7_34 x7_1 σ7_) else ((f_X8_nextLine_L7 k7_34 n7) (x7_1 + (-1 : Int32)) σ7_)) else none) else none)
def f_X8_nextLine (σ : ss_M) : Option (Int32 × ss_M) :=
  f_X8_nextLine_L7 (f_X8_nextLine_j34) FU ((sG σ 17 0) - (2 : Int32)) σ
def rm_X8_nextLine : Room := { frames := 0, cells := 0, slots := 0, locals := 0 }
theorem hd_X8_nextLine : yX8_nextLine.cls = RX8 ∧ yX8_nextLine.cls ≠ "java/lang/invoke/MethodHandle" ∧ yX8_nextLine.cls ≠ "java/lang/invoke/VarHandle" ∧ (parseMethodDescriptor yX8_nextLine.desc).map (fun d => d.parameters.length) = some 0 := by decide +kernel
set_option maxHeartbeats 4000000 in
set_option maxRecDepth 100000 in
theorem c_X8_nextLine (l : Launch) {D : va_G} {Y : Nat → ClassId} {A : ss_A} (hAD : AD 1 A)   {r : Int32} {σ σ' : ss_M} (hf : f_X8_nextLine σ = some (r, σ')) : Met l yX8_nextLine wsX8_nextLine rm_X8_nextLine (Pc0 1 D Y A σ [.ref (A 0 7 0)]) (Qi0 1 D Y A r σ') 0 0 (FA 1 A) := by
  rw [f_X8_nextLine] at hf
  refine Met0 (cc := cX8_nextLine) (maxL := 6) (ret := (some .boolean)) (own := RX8) (by decide +kernel) rfl hAD rfl (Nat.le_of_ble_eq_true rfl) ?_
  intro p e s m args below meth c S hr hlocks hW ls hl
  obtain ⟨hx, hb, hml, hown, hts⟩ := id S
  have iX8 : ∀ q ∈ wsX80, q ∈ wsX8_nextLine := fun q h => List.mem_cons_of_mem _ (List.mem_append_right _ (h))
  have hl : lv_has ls 6 [(0, .ref (A 0 7 0))] := hl
  refine lv_aload_n hx hb dX8_nextLine_0 rfl (lv_at hl 0 rfl) ?_
  refine gf_X8_many hx hb hts hown hW (kS_in (by decide)) iX8 (List.mem_of_getElem? (i := 1) rfl) dX8_nextLine_1 ?_
  refine lv_iconst (v := (2 : Int32)) hx hb dX8_nextLine_4 (by decide) ?_
  refine lv_isub hx hb dX8_nextLine_5 ?_
  refine lv_istore_n (lv' := [(1, .int ((sG σ 17 0) - (2 : Int32))), (0, .ref (A 0 7 0))]) hx hb dX8_nextLine_6 rfl hl (by decide) rfl (fun ls hl => ?_)
  have J34 : ∀ (x34_1 : Int32) (σ34_ : ss_M) (H : Heap) (locs : List Loc) (ls : Array Slot), sW 1 D Y A σ34_ s s.heap H locs → lv_has ls 6 [(0, .ref (A 0 7 0)), (1, .int x34_1)] → f_X8_nextLine_j34 x34_1 σ34_ = some (r, σ') → W p l e rm_X8_nextLine s m args below meth c H locs 0 0 (MQ below (Qi0 1 D Y A r σ') args s 0 0 (FA 1 A)) (F0 m 34 ls []) := by
    intro x34_1 σ34_ H locs ls hW hl hf
    rw [f_X8_nextLine_j34] at hf
    refine lv_iload_n hx hb dX8_nextLine_34 rfl (lv_at hl 1 rfl) ?_
    refine lv_if_ge (tgt := 40) hx hb dX8_nextLine_35 (by decide) (fun q1 => ?_) (fun q1 => ?_)
    · rw [if_pos q1] at hf
      refine lv_aload_n hx hb dX8_nextLine_40 rfl (lv_at hl 0 rfl) ?_
      refine gf_X8_many hx hb hts hown hW (kS_in (by decide)) iX8 (List.mem_of_getElem? (i := 1) rfl) dX8_nextLine_41 ?_
      refine lv_iconst (v := (1 : Int32)) hx hb dX8_nextLine_44 (by decide) ?_
      refine lv_isub hx hb dX8_nextLine_45 ?_
      refine lv_istore_n (lv' := [(2, .int ((sG σ34_ 17 0) - (1 : Int32))), (0, .ref (A 0 7 0)), (1, .int x34_1)]) hx hb dX8_nextLine_46 rfl hl (by decide) rfl (fun ls hl => ?_)
      have J68 : ∀ (x68_2 : Int32) (σ68_ : ss_M) (H : Heap) (locs : List Loc) (ls : Array Slot), sW 1 D Y A σ68_ s s.heap H locs → lv_has ls 6 [(0, .ref (A 0 7 0)), (1, .int x34_1), (2, .int x68_2)] → f_X8_nextLine_j68 x34_1 x68_2 σ68_ = some (r, σ') → W p l e rm_X8_nextLine s m args below meth c H locs 0 0 (MQ below (Qi0 1 D Y A r σ') args s 0 0 (FA 1 A)) (F0 m 68 ls []) := by
        intro x68_2 σ68_ H locs ls hW hl hf
        rw [f_X8_nextLine_j68] at hf
        refine lv_aload_n hx hb dX8_nextLine_68 rfl (lv_at hl 0 rfl) ?_
        refine gf_X8_line hx hb hts hown hW (kS_in (by decide)) iX8 (List.mem_of_getElem? (i := 2) rfl) dX8_nextLine_69 ?_
        refine lv_iload_n hx hb dX8_nextLine_72 rfl (lv_at hl 1 rfl) ?_
        obtain ⟨g2, hf⟩ := ss_if hf
        refine ra_i hx hb hW (kS_in (by decide)) g2 dX8_nextLine_73 ?_
        refine lv_istore_n (lv' := [(3, .int (sA σ68_ 28 0 (x34_1).toNatClampNeg)), (0, .ref (A 0 7 0)), (1, .int x34_1), (2, .int x68_2)]) hx hb dX8_nextLine_74 rfl hl (by decide) rfl (fun ls hl => ?_)
        refine lv_aload_n hx hb dX8_nextLine_75 rfl (lv_at hl 1 rfl) ?_
        refine gf_X8_line hx hb hts hown hW (kS_in (by decide)) iX8 (List.mem_of_getElem? (i := 2) rfl) dX8_nextLine_76 ?_
        refine lv_iload_n hx hb dX8_nextLine_79 rfl (lv_at hl 2 rfl) ?_
        refine lv_aload_n hx hb dX8_nextLine_80 rfl (lv_at hl 1 rfl) ?_
        refine gf_X8_line hx hb hts hown hW (kS_in (by decide)) iX8 (List.mem_of_getElem? (i := 2) rfl) dX8_nextLine_81 ?_
        refine lv_iload_n hx hb dX8_nextLine_84 rfl (lv_at hl 3 rfl) ?_
        obtain ⟨g3, hf⟩ := ss_if hf
        refine ra_i hx hb hW (kS_in (by decide)) g3 dX8_nextLine_85 ?_
        obtain ⟨g4, hf⟩ := ss_if hf
        refine rs_i hx hb hW (kS_in (by decide)) g4 dX8_nextLine_86 (fun H locs hW => ?_)
        refine lv_aload_n hx hb dX8_nextLine_87 rfl (lv_at hl 1 rfl) ?_
        refine gf_X8_line hx hb hts hown hW (kS_in (by decide)) iX8 (List.mem_of_getElem? (i := 2) rfl) dX8_nextLine_88 ?_
        refine lv_iload_n hx hb dX8_nextLine_91 rfl (lv_at hl 3 rfl) ?_
        refine lv_iload_n hx hb dX8_nextLine_92 rfl (lv_at hl 0 rfl) ?_
        obtain ⟨g5, hf⟩ := ss_if hf
        refine rs_i hx hb hW (kS_in (by decide)) g5 dX8_nextLine_93 (fun H locs hW => ?_)
        obtain ⟨σm6, eσm6, hf⟩ := ss_let_some hf
        rw [← eσm6] at hW
        refine lv_iload_n hx hb dX8_nextLine_94 rfl (lv_at hl 2 rfl) ?_
        refine lv_iconst (v := (1 : Int32)) hx hb dX8_nextLine_95 (by decide) ?_
        refine lv_iadd hx hb dX8_nextLine_96 ?_
        refine lv_istore (lv' := [(4, .int (x34_1 + (1 : Int32))), (3, .int (sA σ68_ 28 0 (x34_1).toNatClampNeg)), (0, .ref (A 0 7 0)), (1, .int x34_1), (2, .int x68_2)]) hx hb dX8_nextLine_97 hl (by decide) rfl (fun ls hl => ?_)
        refine lv_aload_n hx hb dX8_nextLine_99 rfl (lv_at hl 2 rfl) ?_
        refine gf_X8_many hx hb hts hown hW (kS_in (by decide)) iX8 (List.mem_of_getElem? (i := 1) rfl) dX8_nextLine_100 ?_
        refine lv_iconst (v := (1 : Int32)) hx hb dX8_nextLine_103 (by decide) ?_
        refine lv_isub hx hb dX8_nextLine_104 ?_
        refine lv_istore (lv' := [(5, .int ((sG σm6 17 0) - (1 : Int32))), (4, .int (x34_1 + (1 : Int32))), (3, .int (sA σ68_ 28 0 (x34_1).toNatClampNeg)), (0, .ref (A 0 7 0)), (1, .int x34_1), (2, .int x68_2)]) hx hb dX8_nextLine_105 hl (by decide) rfl (fun ls hl => ?_)
        have L107 : ∀ (n107 : Nat), ∀ (x107_4 : Int32) (x107_5 : Int32) (σ107_ : ss_M) (H : Heap) (locs : List Loc) (ls : Array Slot), sW 1 D Y A σ107_ s s.heap H locs → lv_has ls 6 [(0, .ref (A 0 7 0)), (4, .int x107_4), (5, .int x107_5)] → f_X8_nextLine_L107 n107 x107_4 x107_5 σ107_ = some (r, σ') → W p l e rm_X8_nextLine s m args below meth c H locs 0 0 (MQ below (Qi0 1 D Y A r σ') args s 0 0 (FA 1 A)) (F0 m 107 ls []) := by
          intro n107
          induction n107 with
          | zero =>
            intro x107_4 x107_5 σ107_ H locs ls hW hl hf
            rw [f_X8_nextLine_L107] at hf
            cases hf
          | succ n107 ih107 =>
            intro x107_4 x107_5 σ107_ H locs ls hW hl hf
            rw [f_X8_nextLine_L107] at hf
            refine lv_iload hx hb dX8_nextLine_107 (lv_at hl 1 rfl) ?_
            refine lv_iload hx hb dX8_nextLine_109 (lv_at hl 2 rfl) ?_
            refine lv_icmp_ge (tgt := 153) hx hb dX8_nextLine_111 (by decide) (fun q7 => ?_) (fun q7 => ?_)
            · rw [if_pos q7] at hf
              refine lv_iconst (v := (1 : Int32)) hx hb dX8_nextLine_153 (by decide) ?_
              exact re_z hx hb hr hlocks hW (by decide) (Option.some.inj hf) dX8_nextLine_154
            · rw [if_neg q7] at hf
              refine lv_aload_n hx hb dX8_nextLine_114 rfl (lv_at hl 0 rfl) ?_
              refine gf_X8_line hx hb hts hown hW (kS_in (by decide)) iX8 (List.mem_of_getElem? (i := 2) rfl) dX8_nextLine_115 ?_
              refine lv_iload hx hb dX8_nextLine_118 (lv_at hl 1 rfl) ?_
              obtain ⟨g8, hf⟩ := ss_if hf
              refine ra_i hx hb hW (kS_in (by decide)) g8 dX8_nextLine_120 ?_
              refine lv_istore_n (lv' := [(3, .int (sA σ107_ 28 0 (x107_4).toNatClampNeg)), (0, .ref (A 0 7 0)), (4, .int x107_4), (5, .int x107_5)]) hx hb dX8_nextLine_121 rfl hl (by decide) rfl (fun ls hl => ?_)
              refine lv_aload_n hx hb dX8_nextLine_122 rfl (lv_at hl 1 rfl) ?_
              refine gf_X8_line hx hb hts hown hW (kS_in (by decide)) iX8 (List.mem_of_getElem? (i := 2) rfl) dX8_nextLine_123 ?_
              refine lv_iload hx hb dX8_nextLine_126 (lv_at hl 2 rfl) ?_
              refine lv_aload_n hx hb dX8_nextLine_128 rfl (lv_at hl 1 rfl) ?_
              refine gf_X8_line hx hb hts hown hW (kS_in (by decide)) iX8 (List.mem_of_getElem? (i := 2) rfl) dX8_nextLine_129 ?_
              refine lv_iload hx hb dX8_nextLine_132 (lv_at hl 3 rfl) ?_
              obtain ⟨g9, hf⟩ := ss_if hf
              refine ra_i hx hb hW (kS_in (by decide)) g9 dX8_nextLine_134 ?_
              obtain ⟨g10, hf⟩ := ss_if hf
              refine rs_i hx hb hW (kS_in (by decide)) g10 dX8_nextLine_135 (fun H locs hW => ?_)
              refine lv_aload_n hx hb dX8_nextLine_136 rfl (lv_at hl 1 rfl) ?_
              refine gf_X8_line hx hb hts hown hW (kS_in (by decide)) iX8 (List.mem_of_getElem? (i := 2) rfl) dX8_nextLine_137 ?_
              refine lv_iload hx hb dX8_nextLine_140 (lv_at hl 3 rfl) ?_
              refine lv_iload_n hx hb dX8_nextLine_142 rfl (lv_at hl 0 rfl) ?_
              obtain ⟨g11, hf⟩ := ss_if hf
              refine rs_i hx hb hW (kS_in (by decide)) g11 dX8_nextLine_143 (fun H locs hW => ?_)
              obtain ⟨σm12, eσm12, hf⟩ := ss_let_some hf
              rw [← eσm12] at hW
              refine lv_iinc (v := (x107_4 + (1 : Int32))) (lv' := [(4, .int (x107_4 + (1 : Int32))), (3, .int (sA σ107_ 28 0 (x107_4).toNatClampNeg)), (0, .ref (A 0 7 0)), (5, .int x107_5)]) hx hb dX8_nextLine_144 hl (k := 2) rfl rfl (by decide) rfl (fun ls hl => ?_)
              refine lv_iinc (v := (x107_5 + (-1 : Int32))) (lv' := [(5, .int (x107_5 + (-1 : Int32))), (4, .int (x107_4 + (1 : Int32))), (3, .int (sA σ107_ 28 0 (x107_4).toNatClampNeg)), (0, .ref (A 0 7 0))]) hx hb dX8_nextLine_147 hl (k := 3) rfl rfl (by decide) rfl (fun ls hl => ?_)
              refine lv_goto (tgt := 107) hx hb dX8_nextLine_150 (by decide) ?_
              exact ih107 (x107_4 + (1 : Int32)) (x107_5 + (-1 : Int32)) σm12 _ _ _ hW (lv_sub hl [3, 1, 0] rfl) hf
        exact L107 FU (x34_1 + (1 : Int32)) ((sG σm6 17 0) - (1 : Int32)) σm6 _ _ _ hW (lv_sub hl [3, 1, 0] rfl) hf
      have L47 : ∀ (n47 : Nat), ∀ (x47_2 : Int32) (σ47_ : ss_M) (H : Heap) (locs : List Loc) (ls : Array Slot), sW 1 D Y A σ47_ s s.heap H locs → lv_has ls 6 [(0, .ref (A 0 7 0)), (1, .int x34_1), (2, .int x47_2)] → f_X8_nextLine_L47 x34_1 (f_X8_nextLine_j68 x34_1) n47 x47_2 σ47_ = some (r, σ') → W p l e rm_X8_nextLine s m args below meth c H locs 0 0 (MQ below (Qi0 1 D Y A r σ') args s 0 0 (FA 1 A)) (F0 m 47 ls []) := by
        intro n47
        induction n47 with
        | zero =>
          intro x47_2 σ47_ H locs ls hW hl hf
          rw [f_X8_nextLine_L47] at hf
          cases hf
        | succ n47 ih47 =>
          intro x47_2 σ47_ H locs ls hW hl hf
          rw [f_X8_nextLine_L47] at hf
          refine lv_aload_n hx hb dX8_nextLine_47 rfl (lv_at hl 0 rfl) ?_
          refine gf_X8_line hx hb hts hown hW (kS_in (by decide)) iX8 (List.mem_of_getElem? (i := 2) rfl) dX8_nextLine_48 ?_
          refine lv_iload_n hx hb dX8_nextLine_51 rfl (lv_at hl 2 rfl) ?_
          obtain ⟨g13, hf⟩ := ss_if hf
          refine ra_i hx hb hW (kS_in (by decide)) g13 dX8_nextLine_52 ?_
          refine lv_aload_n hx hb dX8_nextLine_53 rfl (lv_at hl 0 rfl) ?_
          refine gf_X8_line hx hb hts hown hW (kS_in (by decide)) iX8 (List.mem_of_getElem? (i := 2) rfl) dX8_nextLine_54 ?_
          refine lv_iload_n hx hb dX8_nextLine_57 rfl (lv_at hl 1 rfl) ?_
          obtain ⟨g14, hf⟩ := ss_if hf
          refine ra_i hx hb hW (kS_in (by decide)) g14 dX8_nextLine_58 ?_
          refine lv_icmp_ge (tgt := 68) hx hb dX8_nextLine_59 (by decide) (fun q15 => ?_) (fun q15 => ?_)
          · rw [if_pos q15] at hf
            exact J68 x47_2 σ47_ _ _ _ hW (lv_sub hl [0, 1, 2] rfl) hf
          · rw [if_neg q15] at hf
            refine lv_iinc (v := (x47_2 + (-1 : Int32))) (lv' := [(2, .int (x47_2 + (-1 : Int32))), (0, .ref (A 0 7 0)), (1, .int x34_1)]) hx hb dX8_nextLine_62 hl (k := 2) rfl rfl (by decide) rfl (fun ls hl => ?_)
            refine lv_goto (tgt := 47) hx hb dX8_nextLine_65 (by decide) ?_
            exact ih47 (x47_2 + (-1 : Int32)) σ47_ _ _ _ hW (lv_sub hl [1, 2, 0] rfl) hf
      exact L47 FU ((sG σ34_ 17 0) - (1 : Int32)) σ34_ _ _ _ hW (lv_sub hl [1, 2, 0] rfl) hf
    · rw [if_neg q1] at hf
      refine lv_iconst (v := (0 : Int32)) hx hb dX8_nextLine_38 (by decide) ?_
      exact re_z hx hb hr hlocks hW (by decide) (Option.some.inj hf) dX8_nextLine_39
  have L7 : ∀ (n7 : Nat), ∀ (x7_1 : Int32) (σ7_ : ss_M) (H : Heap) (locs : List Loc) (ls : Array Slot), sW 1 D Y A σ7_ s s.heap H locs → lv_has ls 6 [(0, .ref (A 0 7 0)), (1, .int x7_1)] → f_X8_nextLine_L7 (f_X8_nextLine_j34) n7 x7_1 σ7_ = some (r, σ') → W p l e rm_X8_nextLine s m args below meth c H locs 0 0 (MQ below (Qi0 1 D Y A r σ') args s 0 0 (FA 1 A)) (F0 m 7 ls []) := by
    intro n7
    induction n7 with
    | zero =>
      intro x7_1 σ7_ H locs ls hW hl hf
      rw [f_X8_nextLine_L7] at hf
      cases hf
    | succ n7 ih7 =>
      intro x7_1 σ7_ H locs ls hW hl hf
      rw [f_X8_nextLine_L7] at hf
      refine lv_iload_n hx hb dX8_nextLine_7 rfl (lv_at hl 1 rfl) ?_
      refine lv_if_lt (tgt := 34) hx hb dX8_nextLine_8 (by decide) (fun q16 => ?_) (fun q16 => ?_)
      · rw [if_pos q16] at hf
        exact J34 x7_1 σ7_ _ _ _ hW (lv_sub hl [0, 1] rfl) hf
      · rw [if_neg q16] at hf
        refine lv_aload_n hx hb dX8_nextLine_11 rfl (lv_at hl 0 rfl) ?_
        refine gf_X8_line hx hb hts hown hW (kS_in (by decide)) iX8 (List.mem_of_getElem? (i := 2) rfl) dX8_nextLine_12 ?_
        refine lv_iload_n hx hb dX8_nextLine_15 rfl (lv_at hl 1 rfl) ?_
        obtain ⟨g17, hf⟩ := ss_if hf
        refine ra_i hx hb hW (kS_in (by decide)) g17 dX8_nextLine_16 ?_
        refine lv_aload_n hx hb dX8_nextLine_17 rfl (lv_at hl 0 rfl) ?_
        refine gf_X8_line hx hb hts hown hW (kS_in (by decide)) iX8 (List.mem_of_getElem? (i := 2) rfl) dX8_nextLine_18 ?_
        refine lv_iload_n hx hb dX8_nextLine_21 rfl (lv_at hl 1 rfl) ?_
        refine lv_iconst (v := (1 : Int32)) hx hb dX8_nextLine_22 (by decide) ?_
        refine lv_iadd hx hb dX8_nextLine_23 ?_
        obtain ⟨g18, hf⟩ := ss_if hf
        refine ra_i hx hb hW (kS_in (by decide)) g18 dX8_nextLine_24 ?_
        refine lv_icmp_le (tgt := 34) hx hb dX8_nextLine_25 (by decide) (fun q19 => ?_) (fun q19 => ?_)
        · rw [if_pos q19] at hf
          exact J34 x7_1 σ7_ _ _ _ hW (lv_sub hl [0, 1] rfl) hf
        · rw [if_neg q19] at hf
          refine lv_iinc (v := (x7_1 + (-1 : Int32))) (lv' := [(1, .int (x7_1 + (-1 : Int32))), (0, .ref (A 0 7 0))]) hx hb dX8_nextLine_28 hl (k := 1) rfl rfl (by decide) rfl (fun ls hl => ?_)
          refine lv_goto (tgt := 7) hx hb dX8_nextLine_31 (by decide) ?_
          exact ih7 (x7_1 + (-1 : Int32)) σ7_ _ _ _ hW (lv_sub hl [1, 0] rfl) hf
  exact L7 FU ((sG σ 17 0) - (2 : Int32)) σ _ _ _ hW (lv_sub hl [1, 0] rfl) hf
def f_X8_order_j125 (p0 : Int32) (x125_2 : Int32) (σ125_ : ss_M) : Option (Int32 × ss_M) :=
  if p0 = (-1 : Int32) then (some (x125_2, σ125_)) else (if gd p0 7 = true then (some ((sA σ125_ 29 0 (p0).toNatClampNeg), σ125_)) else none)
def f_X8_order_j110 (x62_2 : Int32) (kb62 : Int32 → Int32 → ss_M → Option (Int32 × ss_M)) (r7 : Int32) (σ110_ : ss_M) : Option (Int32 × ss_M) :=
  ss_bd (f_X8_greater x62_2 r7 σ110_) (fun r8 σ8 => ss_bd (f_X8_nextLine σ8) (fun r9 σ9 => kb62 r8 r9 σ9))
def f_X8_order_L75 (x62_2 : Int32) (r7 : Int32) (k75_110 : ss_M → Option (Int32 × ss_M)) : Nat → Int32 → ss_M → Option (Int32 × ss_M)
  | 0, _, _ => none
  | n75 + 1, x75_5, σ75_ => if (sG σ75_ 17 0) ≤ x75_5 then (k75_110 σ75_) else (if r7 ≤ x62_2 then (k75_110 σ75_) else (if gd x75_5 7 = true then (if gd x75_5 7 = true then ((f_X8_order_L75 x62_2 r7 k75_110 n75) (x75_5 + (1 : Int32)) (sAu σ75_ 29 0 (upd (sA σ75_ 29 0) (x75_5).toNatClampNeg (sA σ75_ 28 0 (x75_5).toNatClampNeg)))) else none) else none))
def f_X8_order_L62 (k62_125 : Int32 → ss_M → Option (Int32 × ss_M)) : Nat → Int32 → Int32 → ss_M → Option (Int32 × ss_M)
  | 0, _, _, _ => none
  | n62 + 1, x62_2, x62_3, σ62_ => if x62_3 = (0 : Int32) then (k62_125 x62_2 σ62_) else (ss_bd (f_X8_readBy σ62_) (fun r7 σ7 => f_X8_order_L75 x62_2 r7 (f_X8_order_j110 x62_2 (f_X8_order_L62 k62_125 n62) r7) FU (0 : Int32) σ7))
def f_X8_order_j58 (p0 : Int32) (σ58_ : ss_M) : Option (Int32 × ss_M) :=
  f_X8_order_L62 (f_X8_order_j125 p0) FU (-1 : Int32) (1 : Int32) σ58_
def f_X8_order_L37 (k37_58 : ss_M → Option (Int32 × ss_M)) : Nat → Int32 → ss_M → Option (Int32 × ss_M)
  | 0, _, _ => none
  | n37 + 1, x37_2, σ37_ => if (sG σ37_ 17 0) ≤ x37_2 then (k37_58 σ37_) else (if gd x37_2 7 = true then ((f_X8_order_L37 k37_58 n37) (x37_2 + (1 : Int32)) (sAu σ37_ 28 0 (upd (sA σ37_ 28 0) (x37_2).toNatClampNeg x37_2))) else none)
def f_X8_order (p0 : Int32) (σ : ss_M) : Option (Int32 × ss_M) :=
  if (-1 : Int32) ≤ p0 then (if (sG σ 17 0) ≤ (7 : Int32) then (if p0 < (sG σ 17 0) then (f_X8_order_L37 (f_X8_order_j58 p0) FU (0 : Int32) σ) else (some ((-5 : Int32), σ))) else (ss_bd (f_X8_twenty σ) (fun r16 σ16 => some (r16, σ16)))) else (ss_bd (f_X8_ten σ) (fun r17 σ17 => some (r17, σ17)))
def rm_X8_order : Room := { frames := 6, cells := 0, slots := 0, locals := 300 }
theorem hd_X8_order : yX8_order.cls = RX8 ∧ yX8_order.cls ≠ "java/lang/invoke/MethodHandle" ∧ yX8_order.cls ≠ "java/lang/invoke/VarHandle" ∧ (parseMethodDescriptor yX8_order.desc).map (fun d => d.parameters.length) = some 1 := by decide +kernel
set_option maxHeartbeats 4000000 in
set_option maxRecDepth 100000 in
theorem c_X8_order (l : Launch) {D : va_G} {Y : Nat → ClassId} {A : ss_A} (hAD : AD 1 A) {p0 : Int32}  {r : Int32} {σ σ' : ss_M} (hf : f_X8_order p0 σ = some (r, σ')) : Met l yX8_order wsX8_order rm_X8_order (Pc0 1 D Y A σ [.ref (A 0 7 0), .int p0]) (Qi0 1 D Y A r σ') 0 0 (FA 1 A) := by
  rw [f_X8_order] at hf
  refine Met0 (cc := cX8_order) (maxL := 6) (ret := (some .int)) (own := RX8) (by decide +kernel) rfl hAD rfl (Nat.le_of_ble_eq_true rfl) ?_
  intro p e s m args below meth c S hr hlocks hW ls hl
  obtain ⟨hx, hb, hml, hown, hts⟩ := id S
  have iX8 : ∀ q ∈ wsX80, q ∈ wsX8_order := fun q h => List.mem_cons_of_mem _ (List.mem_append_right _ (h))
  have hl : lv_has ls 6 [(0, .ref (A 0 7 0)), (1, .int p0)] := hl
  refine lv_iload_n hx hb dX8_order_0 rfl (lv_at hl 1 rfl) ?_
  refine lv_iconst (v := (-1 : Int32)) hx hb dX8_order_1 (by decide) ?_
  refine lv_icmp_ge (tgt := 10) hx hb dX8_order_2 (by decide) (fun q1 => ?_) (fun q1 => ?_)
  · rw [if_pos q1] at hf
    refine lv_aload_n hx hb dX8_order_10 rfl (lv_at hl 0 rfl) ?_
    refine gf_X8_many hx hb hts hown hW (kS_in (by decide)) iX8 (List.mem_of_getElem? (i := 1) rfl) dX8_order_11 ?_
    refine lv_bipush (v := (7 : Int32)) hx hb dX8_order_14 (by decide) ?_
    refine lv_icmp_le (tgt := 24) hx hb dX8_order_16 (by decide) (fun q2 => ?_) (fun q2 => ?_)
    · rw [if_pos q2] at hf
      refine lv_iload_n hx hb dX8_order_24 rfl (lv_at hl 1 rfl) ?_
      refine lv_aload_n hx hb dX8_order_25 rfl (lv_at hl 0 rfl) ?_
      refine gf_X8_many hx hb hts hown hW (kS_in (by decide)) iX8 (List.mem_of_getElem? (i := 1) rfl) dX8_order_26 ?_
      refine lv_icmp_lt (tgt := 35) hx hb dX8_order_29 (by decide) (fun q3 => ?_) (fun q3 => ?_)
      · rw [if_pos q3] at hf
        refine lv_iconst (v := (0 : Int32)) hx hb dX8_order_35 (by decide) ?_
        refine lv_istore_n (lv' := [(2, .int (0 : Int32)), (0, .ref (A 0 7 0)), (1, .int p0)]) hx hb dX8_order_36 rfl hl (by decide) rfl (fun ls hl => ?_)
        have J58 : ∀ (σ58_ : ss_M) (H : Heap) (locs : List Loc) (ls : Array Slot), sW 1 D Y A σ58_ s s.heap H locs → lv_has ls 6 [(0, .ref (A 0 7 0)), (1, .int p0)] → f_X8_order_j58 p0 σ58_ = some (r, σ') → W p l e rm_X8_order s m args below meth c H locs 0 0 (MQ below (Qi0 1 D Y A r σ') args s 0 0 (FA 1 A)) (F0 m 58 ls []) := by
          intro σ58_ H locs ls hW hl hf
          rw [f_X8_order_j58] at hf
          refine lv_iconst (v := (-1 : Int32)) hx hb dX8_order_58 (by decide) ?_
          refine lv_istore_n (lv' := [(2, .int (-1 : Int32)), (0, .ref (A 0 7 0)), (1, .int p0)]) hx hb dX8_order_59 rfl hl (by decide) rfl (fun ls hl => ?_)
          refine lv_iconst (v := (1 : Int32)) hx hb dX8_order_60 (by decide) ?_
          refine lv_istore_n (lv' := [(3, .int (1 : Int32)), (2, .int (-1 : Int32)), (0, .ref (A 0 7 0)), (1, .int p0)]) hx hb dX8_order_61 rfl hl (by decide) rfl (fun ls hl => ?_)
          have J125 : ∀ (x125_2 : Int32) (σ125_ : ss_M) (H : Heap) (locs : List Loc) (ls : Array Slot), sW 1 D Y A σ125_ s s.heap H locs → lv_has ls 6 [(0, .ref (A 0 7 0)), (1, .int p0), (2, .int x125_2)] → f_X8_order_j125 p0 x125_2 σ125_ = some (r, σ') → W p l e rm_X8_order s m args below meth c H locs 0 0 (MQ below (Qi0 1 D Y A r σ') args s 0 0 (FA 1 A)) (F0 m 125 ls []) := by
            intro x125_2 σ125_ H locs ls hW hl hf
            rw [f_X8_order_j125] at hf
            refine lv_iload_n hx hb dX8_order_125 rfl (lv_at hl 1 rfl) ?_
            refine lv_iconst (v := (-1 : Int32)) hx hb dX8_order_126 (by decide) ?_
            refine lv_icmp_ne (tgt := 134) hx hb dX8_order_127 (by decide) (fun q4 => ?_) (fun q4 => ?_)
            · rw [if_neg q4] at hf
              refine lv_aload_n hx hb dX8_order_134 rfl (lv_at hl 0 rfl) ?_
              refine gf_X8_bestLine hx hb hts hown hW (kS_in (by decide)) iX8 (List.mem_of_getElem? (i := 3) rfl) dX8_order_135 ?_
              refine lv_iload_n hx hb dX8_order_138 rfl (lv_at hl 1 rfl) ?_
              obtain ⟨g5, hf⟩ := ss_if hf
              refine ra_i hx hb hW (kS_in (by decide)) g5 dX8_order_139 ?_
              exact re_i hx hb hr hlocks hW (Option.some.inj hf) dX8_order_140
            · rw [if_pos q4] at hf
              refine lv_iload_n hx hb dX8_order_130 rfl (lv_at hl 2 rfl) ?_
              refine lv_goto (tgt := 140) hx hb dX8_order_131 (by decide) ?_
              exact re_i hx hb hr hlocks hW (Option.some.inj hf) dX8_order_140
          have L62 : ∀ (n62 : Nat), ∀ (x62_2 : Int32) (x62_3 : Int32) (σ62_ : ss_M) (H : Heap) (locs : List Loc) (ls : Array Slot), sW 1 D Y A σ62_ s s.heap H locs → lv_has ls 6 [(0, .ref (A 0 7 0)), (1, .int p0), (2, .int x62_2), (3, .int x62_3)] → f_X8_order_L62 (f_X8_order_j125 p0) n62 x62_2 x62_3 σ62_ = some (r, σ') → W p l e rm_X8_order s m args below meth c H locs 0 0 (MQ below (Qi0 1 D Y A r σ') args s 0 0 (FA 1 A)) (F0 m 62 ls []) := by
            intro n62
            induction n62 with
            | zero =>
              intro x62_2 x62_3 σ62_ H locs ls hW hl hf
              rw [f_X8_order_L62] at hf
              cases hf
            | succ n62 ih62 =>
              intro x62_2 x62_3 σ62_ H locs ls hW hl hf
              rw [f_X8_order_L62] at hf
              refine lv_iload_n hx hb dX8_order_62 rfl (lv_at hl 3 rfl) ?_
              refine lv_if_eq (tgt := 125) hx hb dX8_order_63 (by decide) (fun q6 => ?_) (fun q6 => ?_)
              · rw [if_pos q6] at hf
                exact J125 x62_2 σ62_ _ _ _ hW (lv_sub hl [0, 1, 2] rfl) hf
              · rw [if_neg q6] at hf
                refine lv_aload_n hx hb dX8_order_66 rfl (lv_at hl 0 rfl) ?_
                obtain ⟨r7, σ7, hf7, hf⟩ := ss_bd_some hf
                refine rv_i S (c_X8_readBy l hAD  hf7) (cwV 0 hts gX8_order_X8_readBy rfl rfl rfl hd_X8_readBy ⟨(Nat.le_of_ble_eq_true rfl), (Nat.le_of_ble_eq_true rfl)⟩) hW (kS_in (by decide)) rfl rfl rfl hl.1 (Nat.le_of_ble_eq_true rfl) ⟨Nat.zero_le _, Nat.zero_le _⟩ dX8_order_67 (fun H locs hW => ?_)
                refine lv_istore (lv' := [(4, .int r7), (0, .ref (A 0 7 0)), (1, .int p0), (2, .int x62_2), (3, .int x62_3)]) hx hb dX8_order_70 hl (by decide) rfl (fun ls hl => ?_)
                refine lv_iconst (v := (0 : Int32)) hx hb dX8_order_72 (by decide) ?_
                refine lv_istore (lv' := [(5, .int (0 : Int32)), (4, .int r7), (0, .ref (A 0 7 0)), (1, .int p0), (2, .int x62_2), (3, .int x62_3)]) hx hb dX8_order_73 hl (by decide) rfl (fun ls hl => ?_)
                have J110 : ∀ (σ110_ : ss_M) (H : Heap) (locs : List Loc) (ls : Array Slot), sW 1 D Y A σ110_ s s.heap H locs → lv_has ls 6 [(0, .ref (A 0 7 0)), (1, .int p0), (2, .int x62_2), (4, .int r7)] → f_X8_order_j110 x62_2 (f_X8_order_L62 (f_X8_order_j125 p0) n62) r7 σ110_ = some (r, σ') → W p l e rm_X8_order s m args below meth c H locs 0 0 (MQ below (Qi0 1 D Y A r σ') args s 0 0 (FA 1 A)) (F0 m 110 ls []) := by
                  intro σ110_ H locs ls hW hl hf
                  rw [f_X8_order_j110] at hf
                  refine lv_iload_n hx hb dX8_order_110 rfl (lv_at hl 2 rfl) ?_
                  refine lv_iload hx hb dX8_order_111 (lv_at hl 3 rfl) ?_
                  obtain ⟨r8, σ8, hf8, hf⟩ := ss_bd_some hf
                  refine rt_i S (c_X8_greater l hAD  hf8) (va_cwS 2 hts gX8_order_X8_greater rfl rfl rfl hd_X8_greater ⟨(Nat.le_of_ble_eq_true rfl), (Nat.le_of_ble_eq_true rfl)⟩) hW rfl rfl hl.1 (Nat.le_of_ble_eq_true rfl) ⟨Nat.zero_le _, Nat.zero_le _⟩ dX8_order_113 (fun H locs hW => ?_)
                  refine lv_istore_n (lv' := [(2, .int r8), (0, .ref (A 0 7 0)), (1, .int p0), (4, .int r7)]) hx hb dX8_order_116 rfl hl (by decide) rfl (fun ls hl => ?_)
                  refine lv_aload_n hx hb dX8_order_117 rfl (lv_at hl 1 rfl) ?_
                  obtain ⟨r9, σ9, hf9, hf⟩ := ss_bd_some hf
                  refine rv_i S (c_X8_nextLine l hAD  hf9) (cwV 0 hts gX8_order_X8_nextLine rfl rfl rfl hd_X8_nextLine ⟨(Nat.le_of_ble_eq_true rfl), (Nat.le_of_ble_eq_true rfl)⟩) hW (kS_in (by decide)) rfl rfl rfl hl.1 (Nat.le_of_ble_eq_true rfl) ⟨Nat.zero_le _, Nat.zero_le _⟩ dX8_order_118 (fun H locs hW => ?_)
                  refine lv_istore_n (lv' := [(3, .int r9), (2, .int r8), (0, .ref (A 0 7 0)), (1, .int p0), (4, .int r7)]) hx hb dX8_order_121 rfl hl (by decide) rfl (fun ls hl => ?_)
                  refine lv_goto (tgt := 62) hx hb dX8_order_122 (by decide) ?_
                  exact ih62 r8 r9 σ9 _ _ _ hW (lv_sub hl [2, 3, 1, 0] rfl) hf
                have L75 : ∀ (n75 : Nat), ∀ (x75_5 : Int32) (σ75_ : ss_M) (H : Heap) (locs : List Loc) (ls : Array Slot), sW 1 D Y A σ75_ s s.heap H locs → lv_has ls 6 [(0, .ref (A 0 7 0)), (1, .int p0), (2, .int x62_2), (4, .int r7), (5, .int x75_5)] → f_X8_order_L75 x62_2 r7 (f_X8_order_j110 x62_2 (f_X8_order_L62 (f_X8_order_j125 p0) n62) r7) n75 x75_5 σ75_ = some (r, σ') → W p l e rm_X8_order s m args below meth c H locs 0 0 (MQ below (Qi0 1 D Y A r σ') args s 0 0 (FA 1 A)) (F0 m 75 ls []) := by
                  intro n75
                  induction n75 with
                  | zero =>
                    intro x75_5 σ75_ H locs ls hW hl hf
                    rw [f_X8_order_L75] at hf
                    cases hf
                  | succ n75 ih75 =>
                    intro x75_5 σ75_ H locs ls hW hl hf
                    rw [f_X8_order_L75] at hf
                    refine lv_iload hx hb dX8_order_75 (lv_at hl 4 rfl) ?_
                    refine lv_aload_n hx hb dX8_order_77 rfl (lv_at hl 0 rfl) ?_
                    refine gf_X8_many hx hb hts hown hW (kS_in (by decide)) iX8 (List.mem_of_getElem? (i := 1) rfl) dX8_order_78 ?_
                    refine lv_icmp_ge (tgt := 110) hx hb dX8_order_81 (by decide) (fun q10 => ?_) (fun q10 => ?_)
                    · rw [if_pos q10] at hf
                      exact J110 σ75_ _ _ _ hW (lv_sub hl [0, 1, 2, 3] rfl) hf
                    · rw [if_neg q10] at hf
                      refine lv_iload hx hb dX8_order_84 (lv_at hl 3 rfl) ?_
                      refine lv_iload_n hx hb dX8_order_86 rfl (lv_at hl 2 rfl) ?_
                      refine lv_icmp_le (tgt := 110) hx hb dX8_order_87 (by decide) (fun q11 => ?_) (fun q11 => ?_)
                      · rw [if_pos q11] at hf
                        exact J110 σ75_ _ _ _ hW (lv_sub hl [0, 1, 2, 3] rfl) hf
                      · rw [if_neg q11] at hf
                        refine lv_aload_n hx hb dX8_order_90 rfl (lv_at hl 0 rfl) ?_
                        refine gf_X8_bestLine hx hb hts hown hW (kS_in (by decide)) iX8 (List.mem_of_getElem? (i := 3) rfl) dX8_order_91 ?_
                        refine lv_iload hx hb dX8_order_94 (lv_at hl 4 rfl) ?_
                        refine lv_aload_n hx hb dX8_order_96 rfl (lv_at hl 0 rfl) ?_
                        refine gf_X8_line hx hb hts hown hW (kS_in (by decide)) iX8 (List.mem_of_getElem? (i := 2) rfl) dX8_order_97 ?_
                        refine lv_iload hx hb dX8_order_100 (lv_at hl 4 rfl) ?_
                        obtain ⟨g12, hf⟩ := ss_if hf
                        refine ra_i hx hb hW (kS_in (by decide)) g12 dX8_order_102 ?_
                        obtain ⟨g13, hf⟩ := ss_if hf
                        refine rs_i hx hb hW (kS_in (by decide)) g13 dX8_order_103 (fun H locs hW => ?_)
                        refine lv_iinc (v := (x75_5 + (1 : Int32))) (lv' := [(5, .int (x75_5 + (1 : Int32))), (0, .ref (A 0 7 0)), (1, .int p0), (2, .int x62_2), (4, .int r7)]) hx hb dX8_order_104 hl (k := 4) rfl rfl (by decide) rfl (fun ls hl => ?_)
                        refine lv_goto (tgt := 75) hx hb dX8_order_107 (by decide) ?_
                        exact ih75 (x75_5 + (1 : Int32)) (sAu σ75_ 29 0 (upd (sA σ75_ 29 0) (x75_5).toNatClampNeg (sA σ75_ 28 0 (x75_5).toNatClampNeg))) _ _ _ hW (lv_sub hl [1, 2, 3, 4, 0] rfl) hf
                exact L75 FU (0 : Int32) σ7 _ _ _ hW (lv_sub hl [2, 3, 4, 1, 0] rfl) hf
          exact L62 FU (-1 : Int32) (1 : Int32) σ58_ _ _ _ hW (lv_sub hl [2, 3, 1, 0] rfl) hf
        have L37 : ∀ (n37 : Nat), ∀ (x37_2 : Int32) (σ37_ : ss_M) (H : Heap) (locs : List Loc) (ls : Array Slot), sW 1 D Y A σ37_ s s.heap H locs → lv_has ls 6 [(0, .ref (A 0 7 0)), (1, .int p0), (2, .int x37_2)] → f_X8_order_L37 (f_X8_order_j58 p0) n37 x37_2 σ37_ = some (r, σ') → W p l e rm_X8_order s m args below meth c H locs 0 0 (MQ below (Qi0 1 D Y A r σ') args s 0 0 (FA 1 A)) (F0 m 37 ls []) := by
          intro n37
          induction n37 with
          | zero =>
            intro x37_2 σ37_ H locs ls hW hl hf
            rw [f_X8_order_L37] at hf
            cases hf
          | succ n37 ih37 =>
            intro x37_2 σ37_ H locs ls hW hl hf
            rw [f_X8_order_L37] at hf
            refine lv_iload_n hx hb dX8_order_37 rfl (lv_at hl 2 rfl) ?_
            refine lv_aload_n hx hb dX8_order_38 rfl (lv_at hl 0 rfl) ?_
            refine gf_X8_many hx hb hts hown hW (kS_in (by decide)) iX8 (List.mem_of_getElem? (i := 1) rfl) dX8_order_39 ?_
            refine lv_icmp_ge (tgt := 58) hx hb dX8_order_42 (by decide) (fun q14 => ?_) (fun q14 => ?_)
            · rw [if_pos q14] at hf
              exact J58 σ37_ _ _ _ hW (lv_sub hl [0, 1] rfl) hf
            · rw [if_neg q14] at hf
              refine lv_aload_n hx hb dX8_order_45 rfl (lv_at hl 0 rfl) ?_
              refine gf_X8_line hx hb hts hown hW (kS_in (by decide)) iX8 (List.mem_of_getElem? (i := 2) rfl) dX8_order_46 ?_
              refine lv_iload_n hx hb dX8_order_49 rfl (lv_at hl 2 rfl) ?_
              refine lv_iload_n hx hb dX8_order_50 rfl (lv_at hl 2 rfl) ?_
              obtain ⟨g15, hf⟩ := ss_if hf
              refine rs_i hx hb hW (kS_in (by decide)) g15 dX8_order_51 (fun H locs hW => ?_)
              refine lv_iinc (v := (x37_2 + (1 : Int32))) (lv' := [(2, .int (x37_2 + (1 : Int32))), (0, .ref (A 0 7 0)), (1, .int p0)]) hx hb dX8_order_52 hl (k := 2) rfl rfl (by decide) rfl (fun ls hl => ?_)
              refine lv_goto (tgt := 37) hx hb dX8_order_55 (by decide) ?_
              exact ih37 (x37_2 + (1 : Int32)) (sAu σ37_ 28 0 (upd (sA σ37_ 28 0) (x37_2).toNatClampNeg x37_2)) _ _ _ hW (lv_sub hl [1, 2, 0] rfl) hf
        exact L37 FU (0 : Int32) σ _ _ _ hW (lv_sub hl [1, 2, 0] rfl) hf
      · rw [if_neg q3] at hf
        refine lv_bipush (v := (-5 : Int32)) hx hb dX8_order_32 (by decide) ?_
        exact re_i hx hb hr hlocks hW (Option.some.inj hf) dX8_order_34
    · rw [if_neg q2] at hf
      refine lv_aload_n hx hb dX8_order_19 rfl (lv_at hl 0 rfl) ?_
      obtain ⟨r16, σ16, hf16, hf⟩ := ss_bd_some hf
      refine rv_i S (c_X8_twenty l hAD  hf16) (cwV 0 hts gX8_order_X8_twenty rfl rfl rfl hd_X8_twenty ⟨(Nat.le_of_ble_eq_true rfl), (Nat.le_of_ble_eq_true rfl)⟩) hW (kS_in (by decide)) rfl rfl rfl hl.1 (Nat.le_of_ble_eq_true rfl) ⟨Nat.zero_le _, Nat.zero_le _⟩ dX8_order_20 (fun H locs hW => ?_)
      exact re_i hx hb hr hlocks hW (Option.some.inj hf) dX8_order_23
  · rw [if_neg q1] at hf
    refine lv_aload_n hx hb dX8_order_5 rfl (lv_at hl 0 rfl) ?_
    obtain ⟨r17, σ17, hf17, hf⟩ := ss_bd_some hf
    refine rv_i S (c_X8_ten l hAD  hf17) (cwV 0 hts gX8_order_X8_ten rfl rfl rfl hd_X8_ten ⟨(Nat.le_of_ble_eq_true rfl), (Nat.le_of_ble_eq_true rfl)⟩) hW (kS_in (by decide)) rfl rfl rfl hl.1 (Nat.le_of_ble_eq_true rfl) ⟨Nat.zero_le _, Nat.zero_le _⟩ dX8_order_6 (fun H locs hW => ?_)
    exact re_i hx hb hr hlocks hW (Option.some.inj hf) dX8_order_9
def f_X8_heard_j80 (x80_2 : Int32) (σ80_ : ss_M) : Option (Int32 × ss_M) :=
  if gd (sG σ80_ 22 0) 6 = true then (ss_let (sGu (sAu σ80_ 20 0 (upd (sA σ80_ 20 0) ((sG σ80_ 22 0)).toNatClampNeg x80_2)) 22 0 ((sG (sAu σ80_ 20 0 (upd (sA σ80_ 20 0) ((sG σ80_ 22 0)).toNatClampNeg x80_2)) 22 0) + (1 : Int32))) (fun σm3 => some ((sG σm3 22 0), σm3))) else none
def f_X8_heard_j72 (x36_2 : Int32) (x36_3 : Int32) (kb36 : Int32 → Int32 → ss_M → Option (Int32 × ss_M)) (s72_0 : Int32) (σ72_ : ss_M) : Option (Int32 × ss_M) :=
  kb36 (x36_2 ||| s72_0) (x36_3 + (1 : Int32)) σ72_
def f_X8_heard_j62 (x36_2 : Int32) (x36_3 : Int32) (kb36 : Int32 → Int32 → ss_M → Option (Int32 × ss_M)) (r5 : Int32) (s62_0 : Int32) (σ62_ : ss_M) : Option (Int32 × ss_M) :=
  if r5 = s62_0 then (f_X8_heard_j72 x36_2 x36_3 kb36 ((1 : Int32) <<< (x36_3 &&& (31 : Int32))) σ62_) else (f_X8_heard_j72 x36_2 x36_3 kb36 (0 : Int32) σ62_)
def f_X8_heard_L36 (p0 : Int32) (k36_80 : Int32 → ss_M → Option (Int32 × ss_M)) : Nat → Int32 → Int32 → ss_M → Option (Int32 × ss_M)
  | 0, _, _, _ => none
  | n36 + 1, x36_2, x36_3, σ36_ => if (30 : Int32) < x36_3 then (k36_80 x36_2 σ36_) else (ss_bd (f_X8_stuckBy x36_3 (-1 : Int32) σ36_) (fun r5 σ5 => if p0 = (-1 : Int32) then (f_X8_heard_j62 x36_2 x36_3 (f_X8_heard_L36 p0 k36_80 n36) r5 (sG σ5 17 0) σ5) else (f_X8_heard_j62 x36_2 x36_3 (f_X8_heard_L36 p0 k36_80 n36) r5 p0 σ5)))
def f_X8_heard_j18 (p0 : Int32) (σ18_ : ss_M) : Option (Int32 × ss_M) :=
  if (sG σ18_ 22 0) = (6 : Int32) then (ss_bd (f_X8_full σ18_) (fun r8 σ8 => some (r8, σ8))) else (f_X8_heard_L36 p0 (f_X8_heard_j80) FU (0 : Int32) (1 : Int32) σ18_)
def f_X8_heard (p0 : Int32) (σ : ss_M) : Option (Int32 × ss_M) :=
  if p0 = (-1 : Int32) then (f_X8_heard_j18 p0 σ) else (ss_bd (f_X8_isPiece p0 σ) (fun r10 σ10 => if r10 = (0 : Int32) then (ss_bd (f_X8_bad σ10) (fun r12 σ12 => some (r12, σ12))) else (f_X8_heard_j18 p0 σ10)))
def rm_X8_heard : Room := { frames := 6, cells := 0, slots := 0, locals := 300 }
theorem hd_X8_heard : yX8_heard.cls = RX8 ∧ yX8_heard.cls ≠ "java/lang/invoke/MethodHandle" ∧ yX8_heard.cls ≠ "java/lang/invoke/VarHandle" ∧ (parseMethodDescriptor yX8_heard.desc).map (fun d => d.parameters.length) = some 1 := by decide +kernel
set_option maxHeartbeats 4000000 in
set_option maxRecDepth 100000 in
theorem c_X8_heard (l : Launch) {D : va_G} {Y : Nat → ClassId} {A : ss_A} (hAD : AD 1 A) {p0 : Int32}  {r : Int32} {σ σ' : ss_M} (hf : f_X8_heard p0 σ = some (r, σ')) : Met l yX8_heard wsX8_heard rm_X8_heard (Pc0 1 D Y A σ [.ref (A 0 7 0), .int p0]) (Qi0 1 D Y A r σ') 0 0 (FA 1 A) := by
  rw [f_X8_heard] at hf
  refine Met0 (cc := cX8_heard) (maxL := 4) (ret := (some .int)) (own := RX8) (by decide +kernel) rfl hAD rfl (Nat.le_of_ble_eq_true rfl) ?_
  intro p e s m args below meth c S hr hlocks hW ls hl
  obtain ⟨hx, hb, hml, hown, hts⟩ := id S
  have iX8 : ∀ q ∈ wsX80, q ∈ wsX8_heard := fun q h => List.mem_cons_of_mem _ (List.mem_append_right _ (h))
  have hl : lv_has ls 4 [(0, .ref (A 0 7 0)), (1, .int p0)] := hl
  refine lv_iload_n hx hb dX8_heard_0 rfl (lv_at hl 1 rfl) ?_
  refine lv_iconst (v := (-1 : Int32)) hx hb dX8_heard_1 (by decide) ?_
  have J18 : ∀ (σ18_ : ss_M) (H : Heap) (locs : List Loc) (ls : Array Slot), sW 1 D Y A σ18_ s s.heap H locs → lv_has ls 4 [(0, .ref (A 0 7 0)), (1, .int p0)] → f_X8_heard_j18 p0 σ18_ = some (r, σ') → W p l e rm_X8_heard s m args below meth c H locs 0 0 (MQ below (Qi0 1 D Y A r σ') args s 0 0 (FA 1 A)) (F0 m 18 ls []) := by
    intro σ18_ H locs ls hW hl hf
    rw [f_X8_heard_j18] at hf
    refine lv_aload_n hx hb dX8_heard_18 rfl (lv_at hl 0 rfl) ?_
    refine gf_X8_heardMany hx hb hts hown hW (kS_in (by decide)) iX8 (List.mem_of_getElem? (i := 1) rfl) dX8_heard_19 ?_
    refine lv_bipush (v := (6 : Int32)) hx hb dX8_heard_22 (by decide) ?_
    refine lv_icmp_ne (tgt := 32) hx hb dX8_heard_24 (by decide) (fun q1 => ?_) (fun q1 => ?_)
    · rw [if_neg q1] at hf
      refine lv_iconst (v := (0 : Int32)) hx hb dX8_heard_32 (by decide) ?_
      refine lv_istore_n (lv' := [(2, .int (0 : Int32)), (0, .ref (A 0 7 0)), (1, .int p0)]) hx hb dX8_heard_33 rfl hl (by decide) rfl (fun ls hl => ?_)
      refine lv_iconst (v := (1 : Int32)) hx hb dX8_heard_34 (by decide) ?_
      refine lv_istore_n (lv' := [(3, .int (1 : Int32)), (2, .int (0 : Int32)), (0, .ref (A 0 7 0)), (1, .int p0)]) hx hb dX8_heard_35 rfl hl (by decide) rfl (fun ls hl => ?_)
      have J80 : ∀ (x80_2 : Int32) (σ80_ : ss_M) (H : Heap) (locs : List Loc) (ls : Array Slot), sW 1 D Y A σ80_ s s.heap H locs → lv_has ls 4 [(0, .ref (A 0 7 0)), (2, .int x80_2)] → f_X8_heard_j80 x80_2 σ80_ = some (r, σ') → W p l e rm_X8_heard s m args below meth c H locs 0 0 (MQ below (Qi0 1 D Y A r σ') args s 0 0 (FA 1 A)) (F0 m 80 ls []) := by
        intro x80_2 σ80_ H locs ls hW hl hf
        rw [f_X8_heard_j80] at hf
        refine lv_aload_n hx hb dX8_heard_80 rfl (lv_at hl 0 rfl) ?_
        refine gf_X8_heards hx hb hts hown hW (kS_in (by decide)) iX8 (List.mem_of_getElem? (i := 3) rfl) dX8_heard_81 ?_
        refine lv_aload_n hx hb dX8_heard_84 rfl (lv_at hl 0 rfl) ?_
        refine gf_X8_heardMany hx hb hts hown hW (kS_in (by decide)) iX8 (List.mem_of_getElem? (i := 1) rfl) dX8_heard_85 ?_
        refine lv_iload_n hx hb dX8_heard_88 rfl (lv_at hl 1 rfl) ?_
        obtain ⟨g2, hf⟩ := ss_if hf
        refine rs_i hx hb hW (kS_in (by decide)) g2 dX8_heard_89 (fun H locs hW => ?_)
        refine lv_aload_n hx hb dX8_heard_90 rfl (lv_at hl 0 rfl) ?_
        refine lv_dup hx hb dX8_heard_91 rfl ?_
        refine gf_X8_heardMany hx hb hts hown hW (kS_in (by decide)) iX8 (List.mem_of_getElem? (i := 1) rfl) dX8_heard_92 ?_
        refine lv_iconst (v := (1 : Int32)) hx hb dX8_heard_95 (by decide) ?_
        refine lv_iadd hx hb dX8_heard_96 ?_
        refine pf_X8_heardMany hx hb hts hown hW (kS_in (by decide)) iX8 (List.mem_of_getElem? (i := 1) rfl) dX8_heard_97 (fun H locs hW => ?_)
        obtain ⟨σm3, eσm3, hf⟩ := ss_let_some hf
        rw [← eσm3] at hW
        refine lv_aload_n hx hb dX8_heard_100 rfl (lv_at hl 0 rfl) ?_
        refine gf_X8_heardMany hx hb hts hown hW (kS_in (by decide)) iX8 (List.mem_of_getElem? (i := 1) rfl) dX8_heard_101 ?_
        exact re_i hx hb hr hlocks hW (Option.some.inj hf) dX8_heard_104
      have L36 : ∀ (n36 : Nat), ∀ (x36_2 : Int32) (x36_3 : Int32) (σ36_ : ss_M) (H : Heap) (locs : List Loc) (ls : Array Slot), sW 1 D Y A σ36_ s s.heap H locs → lv_has ls 4 [(0, .ref (A 0 7 0)), (1, .int p0), (2, .int x36_2), (3, .int x36_3)] → f_X8_heard_L36 p0 (f_X8_heard_j80) n36 x36_2 x36_3 σ36_ = some (r, σ') → W p l e rm_X8_heard s m args below meth c H locs 0 0 (MQ below (Qi0 1 D Y A r σ') args s 0 0 (FA 1 A)) (F0 m 36 ls []) := by
        intro n36
        induction n36 with
        | zero =>
          intro x36_2 x36_3 σ36_ H locs ls hW hl hf
          rw [f_X8_heard_L36] at hf
          cases hf
        | succ n36 ih36 =>
          intro x36_2 x36_3 σ36_ H locs ls hW hl hf
          rw [f_X8_heard_L36] at hf
          refine lv_iload_n hx hb dX8_heard_36 rfl (lv_at hl 3 rfl) ?_
          refine lv_bipush (v := (30 : Int32)) hx hb dX8_heard_37 (by decide) ?_
          refine lv_icmp_gt (tgt := 80) hx hb dX8_heard_39 (by decide) (fun q4 => ?_) (fun q4 => ?_)
          · rw [if_pos q4] at hf
            exact J80 x36_2 σ36_ _ _ _ hW (lv_sub hl [0, 2] rfl) hf
          · rw [if_neg q4] at hf
            refine lv_iload_n hx hb dX8_heard_42 rfl (lv_at hl 2 rfl) ?_
            refine lv_aload_n hx hb dX8_heard_43 rfl (lv_at hl 0 rfl) ?_
            refine lv_iload_n hx hb dX8_heard_44 rfl (lv_at hl 3 rfl) ?_
            refine lv_iconst (v := (-1 : Int32)) hx hb dX8_heard_45 (by decide) ?_
            obtain ⟨r5, σ5, hf5, hf⟩ := ss_bd_some hf
            refine rv_i S (c_X8_stuckBy l hAD  hf5) (cwV 2 hts gX8_heard_X8_stuckBy rfl rfl rfl hd_X8_stuckBy ⟨(Nat.le_of_ble_eq_true rfl), (Nat.le_of_ble_eq_true rfl)⟩) hW (kS_in (by decide)) rfl rfl rfl hl.1 (Nat.le_of_ble_eq_true rfl) ⟨Nat.zero_le _, Nat.zero_le _⟩ dX8_heard_46 (fun H locs hW => ?_)
            refine lv_iload_n hx hb dX8_heard_49 rfl (lv_at hl 1 rfl) ?_
            refine lv_iconst (v := (-1 : Int32)) hx hb dX8_heard_50 (by decide) ?_
            have J62 : ∀ (s62_0 : Int32) (σ62_ : ss_M) (H : Heap) (locs : List Loc) (ls : Array Slot), sW 1 D Y A σ62_ s s.heap H locs → lv_has ls 4 [(0, .ref (A 0 7 0)), (1, .int p0), (3, .int x36_3)] → f_X8_heard_j62 x36_2 x36_3 (f_X8_heard_L36 p0 (f_X8_heard_j80) n36) r5 s62_0 σ62_ = some (r, σ') → W p l e rm_X8_heard s m args below meth c H locs 0 0 (MQ below (Qi0 1 D Y A r σ') args s 0 0 (FA 1 A)) (F0 m 62 ls [.int s62_0, .int r5, .int x36_2]) := by
              intro s62_0 σ62_ H locs ls hW hl hf
              rw [f_X8_heard_j62] at hf
              have J72 : ∀ (s72_0 : Int32) (σ72_ : ss_M) (H : Heap) (locs : List Loc) (ls : Array Slot), sW 1 D Y A σ72_ s s.heap H locs → lv_has ls 4 [(0, .ref (A 0 7 0)), (1, .int p0), (3, .int x36_3)] → f_X8_heard_j72 x36_2 x36_3 (f_X8_heard_L36 p0 (f_X8_heard_j80) n36) s72_0 σ72_ = some (r, σ') → W p l e rm_X8_heard s m args below meth c H locs 0 0 (MQ below (Qi0 1 D Y A r σ') args s 0 0 (FA 1 A)) (F0 m 72 ls [.int s72_0, .int x36_2]) := by
                intro s72_0 σ72_ H locs ls hW hl hf
                rw [f_X8_heard_j72] at hf
                refine lv_ior hx hb dX8_heard_72 ?_
                refine lv_istore_n (lv' := [(2, .int (x36_2 ||| s72_0)), (0, .ref (A 0 7 0)), (1, .int p0), (3, .int x36_3)]) hx hb dX8_heard_73 rfl hl (by decide) rfl (fun ls hl => ?_)
                refine lv_iinc (v := (x36_3 + (1 : Int32))) (lv' := [(3, .int (x36_3 + (1 : Int32))), (2, .int (x36_2 ||| s72_0)), (0, .ref (A 0 7 0)), (1, .int p0)]) hx hb dX8_heard_74 hl (k := 3) rfl rfl (by decide) rfl (fun ls hl => ?_)
                refine lv_goto (tgt := 36) hx hb dX8_heard_77 (by decide) ?_
                exact ih36 (x36_2 ||| s72_0) (x36_3 + (1 : Int32)) σ72_ _ _ _ hW (lv_sub hl [2, 3, 1, 0] rfl) hf
              refine lv_icmp_ne (tgt := 71) hx hb dX8_heard_62 (by decide) (fun q6 => ?_) (fun q6 => ?_)
              · rw [if_neg q6] at hf
                refine lv_iconst (v := (0 : Int32)) hx hb dX8_heard_71 (by decide) ?_
                exact J72 (0 : Int32) σ62_ _ _ _ hW (lv_sub hl [0, 1, 2] rfl) hf
              · rw [if_pos q6] at hf
                refine lv_iconst (v := (1 : Int32)) hx hb dX8_heard_65 (by decide) ?_
                refine lv_iload_n hx hb dX8_heard_66 rfl (lv_at hl 2 rfl) ?_
                refine lv_ishl hx hb dX8_heard_67 ?_
                refine lv_goto (tgt := 72) hx hb dX8_heard_68 (by decide) ?_
                exact J72 ((1 : Int32) <<< (x36_3 &&& (31 : Int32))) σ62_ _ _ _ hW (lv_sub hl [0, 1, 2] rfl) hf
            refine lv_icmp_ne (tgt := 61) hx hb dX8_heard_51 (by decide) (fun q7 => ?_) (fun q7 => ?_)
            · rw [if_neg q7] at hf
              refine lv_iload_n hx hb dX8_heard_61 rfl (lv_at hl 1 rfl) ?_
              exact J62 p0 σ5 _ _ _ hW (lv_sub hl [0, 1, 3] rfl) hf
            · rw [if_pos q7] at hf
              refine lv_aload_n hx hb dX8_heard_54 rfl (lv_at hl 0 rfl) ?_
              refine gf_X8_many hx hb hts hown hW (kS_in (by decide)) iX8 (List.mem_of_getElem? (i := 2) rfl) dX8_heard_55 ?_
              refine lv_goto (tgt := 62) hx hb dX8_heard_58 (by decide) ?_
              exact J62 (sG σ5 17 0) σ5 _ _ _ hW (lv_sub hl [0, 1, 3] rfl) hf
      exact L36 FU (0 : Int32) (1 : Int32) σ18_ _ _ _ hW (lv_sub hl [2, 3, 1, 0] rfl) hf
    · rw [if_pos q1] at hf
      refine lv_aload_n hx hb dX8_heard_27 rfl (lv_at hl 0 rfl) ?_
      obtain ⟨r8, σ8, hf8, hf⟩ := ss_bd_some hf
      refine rv_i S (c_X8_full l hAD  hf8) (cwV 0 hts gX8_heard_X8_full rfl rfl rfl hd_X8_full ⟨(Nat.le_of_ble_eq_true rfl), (Nat.le_of_ble_eq_true rfl)⟩) hW (kS_in (by decide)) rfl rfl rfl hl.1 (Nat.le_of_ble_eq_true rfl) ⟨Nat.zero_le _, Nat.zero_le _⟩ dX8_heard_28 (fun H locs hW => ?_)
      exact re_i hx hb hr hlocks hW (Option.some.inj hf) dX8_heard_31
  refine lv_icmp_eq (tgt := 18) hx hb dX8_heard_2 (by decide) (fun q9 => ?_) (fun q9 => ?_)
  · rw [if_pos q9] at hf
    exact J18 σ _ _ _ hW (lv_sub hl [0, 1] rfl) hf
  · rw [if_neg q9] at hf
    refine lv_aload_n hx hb dX8_heard_5 rfl (lv_at hl 0 rfl) ?_
    refine lv_iload_n hx hb dX8_heard_6 rfl (lv_at hl 1 rfl) ?_
    obtain ⟨r10, σ10, hf10, hf⟩ := ss_bd_some hf
    refine rv_i S (c_X8_isPiece l hAD  hf10) (cwV 1 hts gX8_heard_X8_isPiece rfl rfl rfl hd_X8_isPiece ⟨(Nat.le_of_ble_eq_true rfl), (Nat.le_of_ble_eq_true rfl)⟩) hW (kS_in (by decide)) rfl rfl rfl hl.1 (Nat.le_of_ble_eq_true rfl) ⟨Nat.zero_le _, Nat.zero_le _⟩ dX8_heard_7 (fun H locs hW => ?_)
    refine lv_if_ne (tgt := 18) hx hb dX8_heard_10 (by decide) (fun q11 => ?_) (fun q11 => ?_)
    · rw [if_neg q11] at hf
      exact J18 σ10 _ _ _ hW (lv_sub hl [0, 1] rfl) hf
    · rw [if_pos q11] at hf
      refine lv_aload_n hx hb dX8_heard_13 rfl (lv_at hl 0 rfl) ?_
      obtain ⟨r12, σ12, hf12, hf⟩ := ss_bd_some hf
      refine rv_i S (c_X8_bad l hAD  hf12) (cwV 0 hts gX8_heard_X8_bad rfl rfl rfl hd_X8_bad ⟨(Nat.le_of_ble_eq_true rfl), (Nat.le_of_ble_eq_true rfl)⟩) hW (kS_in (by decide)) rfl rfl rfl hl.1 (Nat.le_of_ble_eq_true rfl) ⟨Nat.zero_le _, Nat.zero_le _⟩ dX8_heard_14 (fun H locs hW => ?_)
      exact re_i hx hb hr hlocks hW (Option.some.inj hf) dX8_heard_17
def f_X8_forget (σ : ss_M) : Option (Int32 × ss_M) :=
  some ((sG σ 22 0), (sGu σ 22 0 (0 : Int32)))
def rm_X8_forget : Room := { frames := 0, cells := 0, slots := 0, locals := 0 }
theorem hd_X8_forget : yX8_forget.cls = RX8 ∧ yX8_forget.cls ≠ "java/lang/invoke/MethodHandle" ∧ yX8_forget.cls ≠ "java/lang/invoke/VarHandle" ∧ (parseMethodDescriptor yX8_forget.desc).map (fun d => d.parameters.length) = some 0 := by decide +kernel
set_option maxHeartbeats 4000000 in
set_option maxRecDepth 100000 in
theorem c_X8_forget (l : Launch) {D : va_G} {Y : Nat → ClassId} {A : ss_A} (hAD : AD 1 A)   {r : Int32} {σ σ' : ss_M} (hf : f_X8_forget σ = some (r, σ')) : Met l yX8_forget wsX8_forget rm_X8_forget (Pc0 1 D Y A σ [.ref (A 0 7 0)]) (Qi0 1 D Y A r σ') 0 0 (FA 1 A) := by
  rw [f_X8_forget] at hf
  refine Met0 (cc := cX8_forget) (maxL := 2) (ret := (some .int)) (own := RX8) (by decide +kernel) rfl hAD rfl (Nat.le_of_ble_eq_true rfl) ?_
  intro p e s m args below meth c S hr hlocks hW ls hl
  obtain ⟨hx, hb, hml, hown, hts⟩ := id S
  have iX8 : ∀ q ∈ wsX80, q ∈ wsX8_forget := fun q h => List.mem_cons_of_mem _ (List.mem_append_right _ (h))
  have hl : lv_has ls 2 [(0, .ref (A 0 7 0))] := hl
  refine lv_aload_n hx hb dX8_forget_0 rfl (lv_at hl 0 rfl) ?_
  refine gf_X8_heardMany hx hb hts hown hW (kS_in (by decide)) iX8 (List.mem_of_getElem? (i := 1) rfl) dX8_forget_1 ?_
  refine lv_istore_n (lv' := [(1, .int (sG σ 22 0)), (0, .ref (A 0 7 0))]) hx hb dX8_forget_4 rfl hl (by decide) rfl (fun ls hl => ?_)
  refine lv_aload_n hx hb dX8_forget_5 rfl (lv_at hl 1 rfl) ?_
  refine lv_iconst (v := (0 : Int32)) hx hb dX8_forget_6 (by decide) ?_
  refine pf_X8_heardMany hx hb hts hown hW (kS_in (by decide)) iX8 (List.mem_of_getElem? (i := 1) rfl) dX8_forget_7 (fun H locs hW => ?_)
  refine lv_iload_n hx hb dX8_forget_10 rfl (lv_at hl 0 rfl) ?_
  exact re_i hx hb hr hlocks hW (Option.some.inj hf) dX8_forget_11
def f_X8_breathSet_L5 : Nat → Int32 → Int32 → ss_M → Option (Int32 × ss_M)
  | 0, _, _, _ => none
  | n5 + 1, x5_1, x5_2, σ5_ => if (sG σ5_ 22 0) ≤ x5_2 then (some (x5_1, σ5_)) else (if gd x5_2 6 = true then ((f_X8_breathSet_L5 n5) (x5_1 &&& (sA σ5_ 20 0 (x5_2).toNatClampNeg)) (x5_2 + (1 : Int32)) σ5_) else none)
def f_X8_breathSet (σ : ss_M) : Option (Int32 × ss_M) :=
  f_X8_breathSet_L5 FU (2147483646 : Int32) (0 : Int32) σ
def rm_X8_breathSet : Room := { frames := 0, cells := 0, slots := 0, locals := 0 }
theorem hd_X8_breathSet : yX8_breathSet.cls = RX8 ∧ yX8_breathSet.cls ≠ "java/lang/invoke/MethodHandle" ∧ yX8_breathSet.cls ≠ "java/lang/invoke/VarHandle" ∧ (parseMethodDescriptor yX8_breathSet.desc).map (fun d => d.parameters.length) = some 0 := by decide +kernel
set_option maxHeartbeats 4000000 in
set_option maxRecDepth 100000 in
theorem c_X8_breathSet (l : Launch) {D : va_G} {Y : Nat → ClassId} {A : ss_A} (hAD : AD 1 A)   {r : Int32} {σ σ' : ss_M} (hf : f_X8_breathSet σ = some (r, σ')) : Met l yX8_breathSet wsX8_breathSet rm_X8_breathSet (Pc0 1 D Y A σ [.ref (A 0 7 0)]) (Qi0 1 D Y A r σ') 0 0 (FA 1 A) := by
  rw [f_X8_breathSet] at hf
  refine Met0 (cc := cX8_breathSet) (maxL := 3) (ret := (some .int)) (own := RX8) (by decide +kernel) rfl hAD rfl (Nat.le_of_ble_eq_true rfl) ?_
  intro p e s m args below meth c S hr hlocks hW ls hl
  obtain ⟨hx, hb, hml, hown, hts⟩ := id S
  have iX8 : ∀ q ∈ wsX80, q ∈ wsX8_breathSet := fun q h => List.mem_cons_of_mem _ (List.mem_append_right _ (h))
  have hl : lv_has ls 3 [(0, .ref (A 0 7 0))] := hl
  refine lv_ldc hx hb hown (hts _ (List.mem_of_getElem? (i := 1) rfl)) dX8_breathSet_0 ?_
  refine lv_istore_n (lv' := [(1, .int (2147483646 : Int32)), (0, .ref (A 0 7 0))]) hx hb dX8_breathSet_2 rfl hl (by decide) rfl (fun ls hl => ?_)
  refine lv_iconst (v := (0 : Int32)) hx hb dX8_breathSet_3 (by decide) ?_
  refine lv_istore_n (lv' := [(2, .int (0 : Int32)), (1, .int (2147483646 : Int32)), (0, .ref (A 0 7 0))]) hx hb dX8_breathSet_4 rfl hl (by decide) rfl (fun ls hl => ?_)
  have L5 : ∀ (n5 : Nat), ∀ (x5_1 : Int32) (x5_2 : Int32) (σ5_ : ss_M) (H : Heap) (locs : List Loc) (ls : Array Slot), sW 1 D Y A σ5_ s s.heap H locs → lv_has ls 3 [(0, .ref (A 0 7 0)), (1, .int x5_1), (2, .int x5_2)] → f_X8_breathSet_L5 n5 x5_1 x5_2 σ5_ = some (r, σ') → W p l e rm_X8_breathSet s m args below meth c H locs 0 0 (MQ below (Qi0 1 D Y A r σ') args s 0 0 (FA 1 A)) (F0 m 5 ls []) := by
    intro n5
    induction n5 with
    | zero =>
      intro x5_1 x5_2 σ5_ H locs ls hW hl hf
      rw [f_X8_breathSet_L5] at hf
      cases hf
    | succ n5 ih5 =>
      intro x5_1 x5_2 σ5_ H locs ls hW hl hf
      rw [f_X8_breathSet_L5] at hf
      refine lv_iload_n hx hb dX8_breathSet_5 rfl (lv_at hl 2 rfl) ?_
      refine lv_aload_n hx hb dX8_breathSet_6 rfl (lv_at hl 0 rfl) ?_
      refine gf_X8_heardMany hx hb hts hown hW (kS_in (by decide)) iX8 (List.mem_of_getElem? (i := 2) rfl) dX8_breathSet_7 ?_
      refine lv_icmp_ge (tgt := 28) hx hb dX8_breathSet_10 (by decide) (fun q1 => ?_) (fun q1 => ?_)
      · rw [if_pos q1] at hf
        refine lv_iload_n hx hb dX8_breathSet_28 rfl (lv_at hl 1 rfl) ?_
        exact re_i hx hb hr hlocks hW (Option.some.inj hf) dX8_breathSet_29
      · rw [if_neg q1] at hf
        refine lv_iload_n hx hb dX8_breathSet_13 rfl (lv_at hl 1 rfl) ?_
        refine lv_aload_n hx hb dX8_breathSet_14 rfl (lv_at hl 0 rfl) ?_
        refine gf_X8_heards hx hb hts hown hW (kS_in (by decide)) iX8 (List.mem_of_getElem? (i := 3) rfl) dX8_breathSet_15 ?_
        refine lv_iload_n hx hb dX8_breathSet_18 rfl (lv_at hl 2 rfl) ?_
        obtain ⟨g2, hf⟩ := ss_if hf
        refine ra_i hx hb hW (kS_in (by decide)) g2 dX8_breathSet_19 ?_
        refine lv_iand hx hb dX8_breathSet_20 ?_
        refine lv_istore_n (lv' := [(1, .int (x5_1 &&& (sA σ5_ 20 0 (x5_2).toNatClampNeg))), (0, .ref (A 0 7 0)), (2, .int x5_2)]) hx hb dX8_breathSet_21 rfl hl (by decide) rfl (fun ls hl => ?_)
        refine lv_iinc (v := (x5_2 + (1 : Int32))) (lv' := [(2, .int (x5_2 + (1 : Int32))), (1, .int (x5_1 &&& (sA σ5_ 20 0 (x5_2).toNatClampNeg))), (0, .ref (A 0 7 0))]) hx hb dX8_breathSet_22 hl (k := 2) rfl rfl (by decide) rfl (fun ls hl => ?_)
        refine lv_goto (tgt := 5) hx hb dX8_breathSet_25 (by decide) ?_
        exact ih5 (x5_1 &&& (sA σ5_ 20 0 (x5_2).toNatClampNeg)) (x5_2 + (1 : Int32)) σ5_ _ _ _ hW (lv_sub hl [2, 1, 0] rfl) hf
  exact L5 FU (2147483646 : Int32) (0 : Int32) σ _ _ _ hW (lv_sub hl [2, 1, 0] rfl) hf
def f_X8_breaths (σ : ss_M) : Option (Int32 × ss_M) :=
  ss_bd (f_X8_breathSet σ) (fun r1 σ1 => some (r1, σ1))
def rm_X8_breaths : Room := { frames := 2, cells := 0, slots := 0, locals := 100 }
theorem hd_X8_breaths : yX8_breaths.cls = RX8 ∧ yX8_breaths.cls ≠ "java/lang/invoke/MethodHandle" ∧ yX8_breaths.cls ≠ "java/lang/invoke/VarHandle" ∧ (parseMethodDescriptor yX8_breaths.desc).map (fun d => d.parameters.length) = some 0 := by decide +kernel
set_option maxHeartbeats 4000000 in
set_option maxRecDepth 100000 in
theorem c_X8_breaths (l : Launch) {D : va_G} {Y : Nat → ClassId} {A : ss_A} (hAD : AD 1 A)   {r : Int32} {σ σ' : ss_M} (hf : f_X8_breaths σ = some (r, σ')) : Met l yX8_breaths wsX8_breaths rm_X8_breaths (Pc0 1 D Y A σ [.ref (A 0 7 0)]) (Qi0 1 D Y A r σ') 0 0 (FA 1 A) := by
  rw [f_X8_breaths] at hf
  refine Met0 (cc := cX8_breaths) (maxL := 1) (ret := (some .int)) (own := RX8) (by decide +kernel) rfl hAD rfl (Nat.le_of_ble_eq_true rfl) ?_
  intro p e s m args below meth c S hr hlocks hW ls hl
  obtain ⟨hx, hb, hml, hown, hts⟩ := id S
  have hl : lv_has ls 1 [(0, .ref (A 0 7 0))] := hl
  refine lv_aload_n hx hb dX8_breaths_0 rfl (lv_at hl 0 rfl) ?_
  obtain ⟨r1, σ1, hf1, hf⟩ := ss_bd_some hf
  refine rv_i S (c_X8_breathSet l hAD  hf1) (cwV 0 hts gX8_breaths_X8_breathSet rfl rfl rfl hd_X8_breathSet ⟨(Nat.le_of_ble_eq_true rfl), (Nat.le_of_ble_eq_true rfl)⟩) hW (kS_in (by decide)) rfl rfl rfl hl.1 (Nat.le_of_ble_eq_true rfl) ⟨Nat.zero_le _, Nat.zero_le _⟩ dX8_breaths_1 (fun H locs hW => ?_)
  exact re_i hx hb hr hlocks hW (Option.some.inj hf) dX8_breaths_4
def f_X8_alike_j80 (x31_4 : Int32) (kb31 : Int32 → Int32 → ss_M → Option (Int32 × ss_M)) (x80_3 : Int32) (σ80_ : ss_M) : Option (Int32 × ss_M) :=
  kb31 x80_3 (x31_4 + (1 : Int32)) σ80_
def f_X8_alike_L31 (p0 : Int32) (p1 : Int32) : Nat → Int32 → Int32 → ss_M → Option (Int32 × ss_M)
  | 0, _, _, _ => none
  | n31 + 1, x31_3, x31_4, σ31_ => if (30 : Int32) < x31_4 then (some (x31_3, σ31_)) else (if ((p0 >>> (x31_4 &&& (31 : Int32))) &&& (1 : Int32)) = (1 : Int32) then (ss_bd (f_X8_stuckBy x31_4 p1 σ31_) (fun r3 σ3 => if gd r3 13 = true then (if gd r3 13 = true then (if gd r3 13 = true then (ss_bd (f_X8_greater x31_3 (sA (sAu σ3 30 0 (upd (sA σ3 30 0) (r3).toNatClampNeg ((sA σ3 30 0 (r3).toNatClampNeg) + (1 : Int32)))) 30 0 (r3).toNatClampNeg) (sAu σ3 30 0 (upd (sA σ3 30 0) (r3).toNatClampNeg ((sA σ3 30 0 (r3).toNatClampNeg) + (1 : Int32))))) (fun r7 σ7 => f_X8_alike_j80 x31_4 (f_X8_alike_L31 p0 p1 n31) r7 σ7)) else none) else none) else none)) else (f_X8_alike_j80 x31_4 (f_X8_alike_L31 p0 p1 n31) x31_3 σ31_))
def f_X8_alike_j28 (p0 : Int32) (p1 : Int32) (σ28_ : ss_M) : Option (Int32 × ss_M) :=
  f_X8_alike_L31 p0 p1 FU (0 : Int32) (1 : Int32) σ28_
def f_X8_alike_L5 (k5_28 : ss_M → Option (Int32 × ss_M)) : Nat → Int32 → ss_M → Option (Int32 × ss_M)
  | 0, _, _ => none
  | n5 + 1, x5_4, σ5_ => if (sG σ5_ 17 0) < x5_4 then (k5_28 σ5_) else (if gd x5_4 13 = true then ((f_X8_alike_L5 k5_28 n5) (x5_4 + (1 : Int32)) (sAu σ5_ 30 0 (upd (sA σ5_ 30 0) (x5_4).toNatClampNeg (0 : Int32)))) else none)
def f_X8_alike (p0 : Int32) (p1 : Int32) (σ : ss_M) : Option (Int32 × ss_M) :=
  f_X8_alike_L5 (f_X8_alike_j28 p0 p1) FU (0 : Int32) σ
def rm_X8_alike : Room := { frames := 6, cells := 0, slots := 0, locals := 300 }
theorem hd_X8_alike : yX8_alike.cls = RX8 ∧ yX8_alike.cls ≠ "java/lang/invoke/MethodHandle" ∧ yX8_alike.cls ≠ "java/lang/invoke/VarHandle" ∧ (parseMethodDescriptor yX8_alike.desc).map (fun d => d.parameters.length) = some 2 := by decide +kernel
set_option maxHeartbeats 4000000 in
set_option maxRecDepth 100000 in
theorem c_X8_alike (l : Launch) {D : va_G} {Y : Nat → ClassId} {A : ss_A} (hAD : AD 1 A) {p0 : Int32} {p1 : Int32}  {r : Int32} {σ σ' : ss_M} (hf : f_X8_alike p0 p1 σ = some (r, σ')) : Met l yX8_alike wsX8_alike rm_X8_alike (Pc0 1 D Y A σ [.ref (A 0 7 0), .int p0, .int p1]) (Qi0 1 D Y A r σ') 0 0 (FA 1 A) := by
  rw [f_X8_alike] at hf
  refine Met0 (cc := cX8_alike) (maxL := 6) (ret := (some .int)) (own := RX8) (by decide +kernel) rfl hAD rfl (Nat.le_of_ble_eq_true rfl) ?_
  intro p e s m args below meth c S hr hlocks hW ls hl
  obtain ⟨hx, hb, hml, hown, hts⟩ := id S
  have iX8 : ∀ q ∈ wsX80, q ∈ wsX8_alike := fun q h => List.mem_cons_of_mem _ (List.mem_append_right _ (h))
  have hl : lv_has ls 6 [(0, .ref (A 0 7 0)), (1, .int p0), (2, .int p1)] := hl
  refine lv_iconst (v := (0 : Int32)) hx hb dX8_alike_0 (by decide) ?_
  refine lv_istore_n (lv' := [(3, .int (0 : Int32)), (0, .ref (A 0 7 0)), (1, .int p0), (2, .int p1)]) hx hb dX8_alike_1 rfl hl (by decide) rfl (fun ls hl => ?_)
  refine lv_iconst (v := (0 : Int32)) hx hb dX8_alike_2 (by decide) ?_
  refine lv_istore (lv' := [(4, .int (0 : Int32)), (3, .int (0 : Int32)), (0, .ref (A 0 7 0)), (1, .int p0), (2, .int p1)]) hx hb dX8_alike_3 hl (by decide) rfl (fun ls hl => ?_)
  have J28 : ∀ (σ28_ : ss_M) (H : Heap) (locs : List Loc) (ls : Array Slot), sW 1 D Y A σ28_ s s.heap H locs → lv_has ls 6 [(0, .ref (A 0 7 0)), (1, .int p0), (2, .int p1), (3, .int (0 : Int32))] → f_X8_alike_j28 p0 p1 σ28_ = some (r, σ') → W p l e rm_X8_alike s m args below meth c H locs 0 0 (MQ below (Qi0 1 D Y A r σ') args s 0 0 (FA 1 A)) (F0 m 28 ls []) := by
    intro σ28_ H locs ls hW hl hf
    rw [f_X8_alike_j28] at hf
    refine lv_iconst (v := (1 : Int32)) hx hb dX8_alike_28 (by decide) ?_
    refine lv_istore (lv' := [(4, .int (1 : Int32)), (0, .ref (A 0 7 0)), (1, .int p0), (2, .int p1), (3, .int (0 : Int32))]) hx hb dX8_alike_29 hl (by decide) rfl (fun ls hl => ?_)
    have L31 : ∀ (n31 : Nat), ∀ (x31_3 : Int32) (x31_4 : Int32) (σ31_ : ss_M) (H : Heap) (locs : List Loc) (ls : Array Slot), sW 1 D Y A σ31_ s s.heap H locs → lv_has ls 6 [(0, .ref (A 0 7 0)), (1, .int p0), (2, .int p1), (3, .int x31_3), (4, .int x31_4)] → f_X8_alike_L31 p0 p1 n31 x31_3 x31_4 σ31_ = some (r, σ') → W p l e rm_X8_alike s m args below meth c H locs 0 0 (MQ below (Qi0 1 D Y A r σ') args s 0 0 (FA 1 A)) (F0 m 31 ls []) := by
      intro n31
      induction n31 with
      | zero =>
        intro x31_3 x31_4 σ31_ H locs ls hW hl hf
        rw [f_X8_alike_L31] at hf
        cases hf
      | succ n31 ih31 =>
        intro x31_3 x31_4 σ31_ H locs ls hW hl hf
        rw [f_X8_alike_L31] at hf
        refine lv_iload hx hb dX8_alike_31 (lv_at hl 4 rfl) ?_
        refine lv_bipush (v := (30 : Int32)) hx hb dX8_alike_33 (by decide) ?_
        refine lv_icmp_gt (tgt := 86) hx hb dX8_alike_35 (by decide) (fun q1 => ?_) (fun q1 => ?_)
        · rw [if_pos q1] at hf
          refine lv_iload_n hx hb dX8_alike_86 rfl (lv_at hl 3 rfl) ?_
          exact re_i hx hb hr hlocks hW (Option.some.inj hf) dX8_alike_87
        · rw [if_neg q1] at hf
          refine lv_iload_n hx hb dX8_alike_38 rfl (lv_at hl 1 rfl) ?_
          refine lv_iload hx hb dX8_alike_39 (lv_at hl 4 rfl) ?_
          refine lv_ishr hx hb dX8_alike_41 ?_
          refine lv_iconst (v := (1 : Int32)) hx hb dX8_alike_42 (by decide) ?_
          refine lv_iand hx hb dX8_alike_43 ?_
          refine lv_iconst (v := (1 : Int32)) hx hb dX8_alike_44 (by decide) ?_
          have J80 : ∀ (x80_3 : Int32) (σ80_ : ss_M) (H : Heap) (locs : List Loc) (ls : Array Slot), sW 1 D Y A σ80_ s s.heap H locs → lv_has ls 6 [(0, .ref (A 0 7 0)), (1, .int p0), (2, .int p1), (3, .int x80_3), (4, .int x31_4)] → f_X8_alike_j80 x31_4 (f_X8_alike_L31 p0 p1 n31) x80_3 σ80_ = some (r, σ') → W p l e rm_X8_alike s m args below meth c H locs 0 0 (MQ below (Qi0 1 D Y A r σ') args s 0 0 (FA 1 A)) (F0 m 80 ls []) := by
            intro x80_3 σ80_ H locs ls hW hl hf
            rw [f_X8_alike_j80] at hf
            refine lv_iinc (v := (x31_4 + (1 : Int32))) (lv' := [(4, .int (x31_4 + (1 : Int32))), (0, .ref (A 0 7 0)), (1, .int p0), (2, .int p1), (3, .int x80_3)]) hx hb dX8_alike_80 hl (k := 4) rfl rfl (by decide) rfl (fun ls hl => ?_)
            refine lv_goto (tgt := 31) hx hb dX8_alike_83 (by decide) ?_
            exact ih31 x80_3 (x31_4 + (1 : Int32)) σ80_ _ _ _ hW (lv_sub hl [1, 2, 3, 4, 0] rfl) hf
          refine lv_icmp_ne (tgt := 80) hx hb dX8_alike_45 (by decide) (fun q2 => ?_) (fun q2 => ?_)
          · rw [if_neg q2] at hf
            exact J80 x31_3 σ31_ _ _ _ hW (lv_sub hl [0, 1, 2, 3, 4] rfl) hf
          · rw [if_pos q2] at hf
            refine lv_aload_n hx hb dX8_alike_48 rfl (lv_at hl 0 rfl) ?_
            refine lv_iload hx hb dX8_alike_49 (lv_at hl 4 rfl) ?_
            refine lv_iload_n hx hb dX8_alike_51 rfl (lv_at hl 2 rfl) ?_
            obtain ⟨r3, σ3, hf3, hf⟩ := ss_bd_some hf
            refine rv_i S (c_X8_stuckBy l hAD  hf3) (cwV 2 hts gX8_alike_X8_stuckBy rfl rfl rfl hd_X8_stuckBy ⟨(Nat.le_of_ble_eq_true rfl), (Nat.le_of_ble_eq_true rfl)⟩) hW (kS_in (by decide)) rfl rfl rfl hl.1 (Nat.le_of_ble_eq_true rfl) ⟨Nat.zero_le _, Nat.zero_le _⟩ dX8_alike_52 (fun H locs hW => ?_)
            refine lv_istore (lv' := [(5, .int r3), (0, .ref (A 0 7 0)), (1, .int p0), (2, .int p1), (3, .int x31_3), (4, .int x31_4)]) hx hb dX8_alike_55 hl (by decide) rfl (fun ls hl => ?_)
            refine lv_aload_n hx hb dX8_alike_57 rfl (lv_at hl 1 rfl) ?_
            refine gf_X8_groups hx hb hts hown hW (kS_in (by decide)) iX8 (List.mem_of_getElem? (i := 2) rfl) dX8_alike_58 ?_
            refine lv_iload hx hb dX8_alike_61 (lv_at hl 0 rfl) ?_
            refine lv_dup2_11 hx hb dX8_alike_63 rfl rfl ?_
            obtain ⟨g4, hf⟩ := ss_if hf
            refine ra_i hx hb hW (kS_in (by decide)) g4 dX8_alike_64 ?_
            refine lv_iconst (v := (1 : Int32)) hx hb dX8_alike_65 (by decide) ?_
            refine lv_iadd hx hb dX8_alike_66 ?_
            obtain ⟨g5, hf⟩ := ss_if hf
            refine rs_i hx hb hW (kS_in (by decide)) g5 dX8_alike_67 (fun H locs hW => ?_)
            refine lv_iload_n hx hb dX8_alike_68 rfl (lv_at hl 4 rfl) ?_
            refine lv_aload_n hx hb dX8_alike_69 rfl (lv_at hl 1 rfl) ?_
            refine gf_X8_groups hx hb hts hown hW (kS_in (by decide)) iX8 (List.mem_of_getElem? (i := 2) rfl) dX8_alike_70 ?_
            refine lv_iload hx hb dX8_alike_73 (lv_at hl 0 rfl) ?_
            obtain ⟨g6, hf⟩ := ss_if hf
            refine ra_i hx hb hW (kS_in (by decide)) g6 dX8_alike_75 ?_
            obtain ⟨r7, σ7, hf7, hf⟩ := ss_bd_some hf
            refine rt_i S (c_X8_greater l hAD  hf7) (va_cwS 2 hts gX8_alike_X8_greater rfl rfl rfl hd_X8_greater ⟨(Nat.le_of_ble_eq_true rfl), (Nat.le_of_ble_eq_true rfl)⟩) hW rfl rfl hl.1 (Nat.le_of_ble_eq_true rfl) ⟨Nat.zero_le _, Nat.zero_le _⟩ dX8_alike_76 (fun H locs hW => ?_)
            refine lv_istore_n (lv' := [(3, .int r7), (5, .int r3), (0, .ref (A 0 7 0)), (1, .int p0), (2, .int p1), (4, .int x31_4)]) hx hb dX8_alike_79 rfl hl (by decide) rfl (fun ls hl => ?_)
            exact J80 r7 σ7 _ _ _ hW (lv_sub hl [2, 3, 4, 0, 5] rfl) hf
    exact L31 FU (0 : Int32) (1 : Int32) σ28_ _ _ _ hW (lv_sub hl [1, 2, 3, 4, 0] rfl) hf
  have L5 : ∀ (n5 : Nat), ∀ (x5_4 : Int32) (σ5_ : ss_M) (H : Heap) (locs : List Loc) (ls : Array Slot), sW 1 D Y A σ5_ s s.heap H locs → lv_has ls 6 [(0, .ref (A 0 7 0)), (1, .int p0), (2, .int p1), (3, .int (0 : Int32)), (4, .int x5_4)] → f_X8_alike_L5 (f_X8_alike_j28 p0 p1) n5 x5_4 σ5_ = some (r, σ') → W p l e rm_X8_alike s m args below meth c H locs 0 0 (MQ below (Qi0 1 D Y A r σ') args s 0 0 (FA 1 A)) (F0 m 5 ls []) := by
    intro n5
    induction n5 with
    | zero =>
      intro x5_4 σ5_ H locs ls hW hl hf
      rw [f_X8_alike_L5] at hf
      cases hf
    | succ n5 ih5 =>
      intro x5_4 σ5_ H locs ls hW hl hf
      rw [f_X8_alike_L5] at hf
      refine lv_iload hx hb dX8_alike_5 (lv_at hl 4 rfl) ?_
      refine lv_aload_n hx hb dX8_alike_7 rfl (lv_at hl 0 rfl) ?_
      refine gf_X8_many hx hb hts hown hW (kS_in (by decide)) iX8 (List.mem_of_getElem? (i := 1) rfl) dX8_alike_8 ?_
      refine lv_icmp_gt (tgt := 28) hx hb dX8_alike_11 (by decide) (fun q8 => ?_) (fun q8 => ?_)
      · rw [if_pos q8] at hf
        exact J28 σ5_ _ _ _ hW (lv_sub hl [0, 1, 2, 3] rfl) hf
      · rw [if_neg q8] at hf
        refine lv_aload_n hx hb dX8_alike_14 rfl (lv_at hl 0 rfl) ?_
        refine gf_X8_groups hx hb hts hown hW (kS_in (by decide)) iX8 (List.mem_of_getElem? (i := 2) rfl) dX8_alike_15 ?_
        refine lv_iload hx hb dX8_alike_18 (lv_at hl 4 rfl) ?_
        refine lv_iconst (v := (0 : Int32)) hx hb dX8_alike_20 (by decide) ?_
        obtain ⟨g9, hf⟩ := ss_if hf
        refine rs_i hx hb hW (kS_in (by decide)) g9 dX8_alike_21 (fun H locs hW => ?_)
        refine lv_iinc (v := (x5_4 + (1 : Int32))) (lv' := [(4, .int (x5_4 + (1 : Int32))), (0, .ref (A 0 7 0)), (1, .int p0), (2, .int p1), (3, .int (0 : Int32))]) hx hb dX8_alike_22 hl (k := 4) rfl rfl (by decide) rfl (fun ls hl => ?_)
        refine lv_goto (tgt := 5) hx hb dX8_alike_25 (by decide) ?_
        exact ih5 (x5_4 + (1 : Int32)) (sAu σ5_ 30 0 (upd (sA σ5_ 30 0) (x5_4).toNatClampNeg (0 : Int32))) _ _ _ hW (lv_sub hl [1, 2, 3, 4, 0] rfl) hf
  exact L5 FU (0 : Int32) σ _ _ _ hW (lv_sub hl [2, 3, 4, 1, 0] rfl) hf
def f_X8_shorter_j47 (x13_3 : Int32) (x13_4 : Int32) (kb13 : Int32 → Int32 → Int32 → ss_M → Option (Int32 × ss_M)) (r4 : Int32) (s47_0 : Int32) (σ47_ : ss_M) : Option (Int32 × ss_M) :=
  ss_bd (f_X8_lesser x13_3 r4 σ47_) (fun r5 σ5 => kb13 s47_0 r5 (x13_4 + (1 : Int32)) σ5)
def f_X8_shorter_L13 (r1 : Int32) : Nat → Int32 → Int32 → Int32 → ss_M → Option (Int32 × ss_M)
  | 0, _, _, _, _ => none
  | n13 + 1, x13_2, x13_3, x13_4, σ13_ => if (sG σ13_ 17 0) ≤ x13_4 then (some (x13_2, σ13_)) else (if r1 = (0 : Int32) then (some (x13_2, σ13_)) else (ss_bd (f_X8_alike r1 x13_4 σ13_) (fun r4 σ4 => if x13_3 ≤ r4 then (f_X8_shorter_j47 x13_3 x13_4 (f_X8_shorter_L13 r1 n13) r4 x13_2 σ4) else (f_X8_shorter_j47 x13_3 x13_4 (f_X8_shorter_L13 r1 n13) r4 x13_4 σ4))))
def f_X8_shorter (σ : ss_M) : Option (Int32 × ss_M) :=
  ss_bd (f_X8_breathSet σ) (fun r1 σ1 => f_X8_shorter_L13 r1 FU (-1 : Int32) (1048576 : Int32) (0 : Int32) σ1)
def rm_X8_shorter : Room := { frames := 8, cells := 0, slots := 0, locals := 400 }
theorem hd_X8_shorter : yX8_shorter.cls = RX8 ∧ yX8_shorter.cls ≠ "java/lang/invoke/MethodHandle" ∧ yX8_shorter.cls ≠ "java/lang/invoke/VarHandle" ∧ (parseMethodDescriptor yX8_shorter.desc).map (fun d => d.parameters.length) = some 0 := by decide +kernel
set_option maxHeartbeats 4000000 in
set_option maxRecDepth 100000 in
theorem c_X8_shorter (l : Launch) {D : va_G} {Y : Nat → ClassId} {A : ss_A} (hAD : AD 1 A)   {r : Int32} {σ σ' : ss_M} (hf : f_X8_shorter σ = some (r, σ')) : Met l yX8_shorter wsX8_shorter rm_X8_shorter (Pc0 1 D Y A σ [.ref (A 0 7 0)]) (Qi0 1 D Y A r σ') 0 0 (FA 1 A) := by
  rw [f_X8_shorter] at hf
  refine Met0 (cc := cX8_shorter) (maxL := 6) (ret := (some .int)) (own := RX8) (by decide +kernel) rfl hAD rfl (Nat.le_of_ble_eq_true rfl) ?_
  intro p e s m args below meth c S hr hlocks hW ls hl
  obtain ⟨hx, hb, hml, hown, hts⟩ := id S
  have iX8 : ∀ q ∈ wsX80, q ∈ wsX8_shorter := fun q h => List.mem_cons_of_mem _ (List.mem_append_right _ (h))
  have hl : lv_has ls 6 [(0, .ref (A 0 7 0))] := hl
  refine lv_aload_n hx hb dX8_shorter_0 rfl (lv_at hl 0 rfl) ?_
  obtain ⟨r1, σ1, hf1, hf⟩ := ss_bd_some hf
  refine rv_i S (c_X8_breathSet l hAD  hf1) (cwV 0 hts gX8_shorter_X8_breathSet rfl rfl rfl hd_X8_breathSet ⟨(Nat.le_of_ble_eq_true rfl), (Nat.le_of_ble_eq_true rfl)⟩) hW (kS_in (by decide)) rfl rfl rfl hl.1 (Nat.le_of_ble_eq_true rfl) ⟨Nat.zero_le _, Nat.zero_le _⟩ dX8_shorter_1 (fun H locs hW => ?_)
  refine lv_istore_n (lv' := [(1, .int r1), (0, .ref (A 0 7 0))]) hx hb dX8_shorter_4 rfl hl (by decide) rfl (fun ls hl => ?_)
  refine lv_iconst (v := (-1 : Int32)) hx hb dX8_shorter_5 (by decide) ?_
  refine lv_istore_n (lv' := [(2, .int (-1 : Int32)), (1, .int r1), (0, .ref (A 0 7 0))]) hx hb dX8_shorter_6 rfl hl (by decide) rfl (fun ls hl => ?_)
  refine lv_ldc hx hb hown (hts _ (List.mem_of_getElem? (i := 1) rfl)) dX8_shorter_7 ?_
  refine lv_istore_n (lv' := [(3, .int (1048576 : Int32)), (2, .int (-1 : Int32)), (1, .int r1), (0, .ref (A 0 7 0))]) hx hb dX8_shorter_9 rfl hl (by decide) rfl (fun ls hl => ?_)
  refine lv_iconst (v := (0 : Int32)) hx hb dX8_shorter_10 (by decide) ?_
  refine lv_istore (lv' := [(4, .int (0 : Int32)), (3, .int (1048576 : Int32)), (2, .int (-1 : Int32)), (1, .int r1), (0, .ref (A 0 7 0))]) hx hb dX8_shorter_11 hl (by decide) rfl (fun ls hl => ?_)
  have L13 : ∀ (n13 : Nat), ∀ (x13_2 : Int32) (x13_3 : Int32) (x13_4 : Int32) (σ13_ : ss_M) (H : Heap) (locs : List Loc) (ls : Array Slot), sW 1 D Y A σ13_ s s.heap H locs → lv_has ls 6 [(0, .ref (A 0 7 0)), (1, .int r1), (2, .int x13_2), (3, .int x13_3), (4, .int x13_4)] → f_X8_shorter_L13 r1 n13 x13_2 x13_3 x13_4 σ13_ = some (r, σ') → W p l e rm_X8_shorter s m args below meth c H locs 0 0 (MQ below (Qi0 1 D Y A r σ') args s 0 0 (FA 1 A)) (F0 m 13 ls []) := by
    intro n13
    induction n13 with
    | zero =>
      intro x13_2 x13_3 x13_4 σ13_ H locs ls hW hl hf
      rw [f_X8_shorter_L13] at hf
      cases hf
    | succ n13 ih13 =>
      intro x13_2 x13_3 x13_4 σ13_ H locs ls hW hl hf
      rw [f_X8_shorter_L13] at hf
      refine lv_iload hx hb dX8_shorter_13 (lv_at hl 4 rfl) ?_
      refine lv_aload_n hx hb dX8_shorter_15 rfl (lv_at hl 0 rfl) ?_
      refine gf_X8_many hx hb hts hown hW (kS_in (by decide)) iX8 (List.mem_of_getElem? (i := 2) rfl) dX8_shorter_16 ?_
      refine lv_icmp_ge (tgt := 61) hx hb dX8_shorter_19 (by decide) (fun q2 => ?_) (fun q2 => ?_)
      · rw [if_pos q2] at hf
        refine lv_iload_n hx hb dX8_shorter_61 rfl (lv_at hl 2 rfl) ?_
        exact re_i hx hb hr hlocks hW (Option.some.inj hf) dX8_shorter_62
      · rw [if_neg q2] at hf
        refine lv_iload_n hx hb dX8_shorter_22 rfl (lv_at hl 1 rfl) ?_
        refine lv_if_eq (tgt := 61) hx hb dX8_shorter_23 (by decide) (fun q3 => ?_) (fun q3 => ?_)
        · rw [if_pos q3] at hf
          refine lv_iload_n hx hb dX8_shorter_61 rfl (lv_at hl 2 rfl) ?_
          exact re_i hx hb hr hlocks hW (Option.some.inj hf) dX8_shorter_62
        · rw [if_neg q3] at hf
          refine lv_aload_n hx hb dX8_shorter_26 rfl (lv_at hl 0 rfl) ?_
          refine lv_iload_n hx hb dX8_shorter_27 rfl (lv_at hl 1 rfl) ?_
          refine lv_iload hx hb dX8_shorter_28 (lv_at hl 4 rfl) ?_
          obtain ⟨r4, σ4, hf4, hf⟩ := ss_bd_some hf
          refine rv_i S (c_X8_alike l hAD  hf4) (cwV 2 hts gX8_shorter_X8_alike rfl rfl rfl hd_X8_alike ⟨(Nat.le_of_ble_eq_true rfl), (Nat.le_of_ble_eq_true rfl)⟩) hW (kS_in (by decide)) rfl rfl rfl hl.1 (Nat.le_of_ble_eq_true rfl) ⟨Nat.zero_le _, Nat.zero_le _⟩ dX8_shorter_30 (fun H locs hW => ?_)
          refine lv_istore (lv' := [(5, .int r4), (0, .ref (A 0 7 0)), (1, .int r1), (2, .int x13_2), (3, .int x13_3), (4, .int x13_4)]) hx hb dX8_shorter_33 hl (by decide) rfl (fun ls hl => ?_)
          refine lv_iload hx hb dX8_shorter_35 (lv_at hl 0 rfl) ?_
          refine lv_iload_n hx hb dX8_shorter_37 rfl (lv_at hl 4 rfl) ?_
          have J47 : ∀ (s47_0 : Int32) (σ47_ : ss_M) (H : Heap) (locs : List Loc) (ls : Array Slot), sW 1 D Y A σ47_ s s.heap H locs → lv_has ls 6 [(0, .ref (A 0 7 0)), (1, .int r1), (3, .int x13_3), (4, .int x13_4), (5, .int r4)] → f_X8_shorter_j47 x13_3 x13_4 (f_X8_shorter_L13 r1 n13) r4 s47_0 σ47_ = some (r, σ') → W p l e rm_X8_shorter s m args below meth c H locs 0 0 (MQ below (Qi0 1 D Y A r σ') args s 0 0 (FA 1 A)) (F0 m 47 ls [.int s47_0]) := by
            intro s47_0 σ47_ H locs ls hW hl hf
            rw [f_X8_shorter_j47] at hf
            refine lv_istore_n (lv' := [(2, .int s47_0), (0, .ref (A 0 7 0)), (1, .int r1), (3, .int x13_3), (4, .int x13_4), (5, .int r4)]) hx hb dX8_shorter_47 rfl hl (by decide) rfl (fun ls hl => ?_)
            refine lv_iload_n hx hb dX8_shorter_48 rfl (lv_at hl 3 rfl) ?_
            refine lv_iload hx hb dX8_shorter_49 (lv_at hl 5 rfl) ?_
            obtain ⟨r5, σ5, hf5, hf⟩ := ss_bd_some hf
            refine rt_i S (c_X8_lesser l hAD  hf5) (va_cwS 2 hts gX8_shorter_X8_lesser rfl rfl rfl hd_X8_lesser ⟨(Nat.le_of_ble_eq_true rfl), (Nat.le_of_ble_eq_true rfl)⟩) hW rfl rfl hl.1 (Nat.le_of_ble_eq_true rfl) ⟨Nat.zero_le _, Nat.zero_le _⟩ dX8_shorter_51 (fun H locs hW => ?_)
            refine lv_istore_n (lv' := [(3, .int r5), (2, .int s47_0), (0, .ref (A 0 7 0)), (1, .int r1), (4, .int x13_4), (5, .int r4)]) hx hb dX8_shorter_54 rfl hl (by decide) rfl (fun ls hl => ?_)
            refine lv_iinc (v := (x13_4 + (1 : Int32))) (lv' := [(4, .int (x13_4 + (1 : Int32))), (3, .int r5), (2, .int s47_0), (0, .ref (A 0 7 0)), (1, .int r1), (5, .int r4)]) hx hb dX8_shorter_55 hl (k := 4) rfl rfl (by decide) rfl (fun ls hl => ?_)
            refine lv_goto (tgt := 13) hx hb dX8_shorter_58 (by decide) ?_
            exact ih13 s47_0 r5 (x13_4 + (1 : Int32)) σ5 _ _ _ hW (lv_sub hl [3, 4, 2, 1, 0] rfl) hf
          refine lv_icmp_ge (tgt := 46) hx hb dX8_shorter_38 (by decide) (fun q6 => ?_) (fun q6 => ?_)
          · rw [if_pos q6] at hf
            refine lv_iload_n hx hb dX8_shorter_46 rfl (lv_at hl 3 rfl) ?_
            exact J47 x13_2 σ4 _ _ _ hW (lv_sub hl [1, 2, 4, 5, 0] rfl) hf
          · rw [if_neg q6] at hf
            refine lv_iload hx hb dX8_shorter_41 (lv_at hl 5 rfl) ?_
            refine lv_goto (tgt := 47) hx hb dX8_shorter_43 (by decide) ?_
            exact J47 x13_4 σ4 _ _ _ hW (lv_sub hl [1, 2, 4, 5, 0] rfl) hf
  exact L13 FU (-1 : Int32) (1048576 : Int32) (0 : Int32) σ1 _ _ _ hW (lv_sub hl [4, 3, 2, 1, 0] rfl) hf
def f_X8_gain (p0 : Int32) (p1 : Int32) (p2 : Int32) (p3 : Int32) (σ : ss_M) : Option (Int32 × ss_M) :=
  if p0 ≤ p1 then (some ((0 : Int32), σ)) else (if p0 < p3 then (some ((0 : Int32), σ)) else (some ((p2 - p0), σ)))
def rm_X8_gain : Room := { frames := 0, cells := 0, slots := 0, locals := 0 }
theorem hd_X8_gain : yX8_gain.cls ≠ "java/lang/invoke/MethodHandle" ∧ yX8_gain.cls ≠ "java/lang/invoke/VarHandle" ∧ (parseMethodDescriptor yX8_gain.desc).map (fun d => d.parameters.length) = some 4 := by decide +kernel
set_option maxHeartbeats 4000000 in
set_option maxRecDepth 100000 in
theorem c_X8_gain (l : Launch) {D : va_G} {Y : Nat → ClassId} {A : ss_A} (hAD : AD 1 A) {p0 : Int32} {p1 : Int32} {p2 : Int32} {p3 : Int32}  {r : Int32} {σ σ' : ss_M} (hf : f_X8_gain p0 p1 p2 p3 σ = some (r, σ')) : Met l yX8_gain wsX8_gain rm_X8_gain (Pc0 1 D Y A σ [.int p0, .int p1, .int p2, .int p3]) (Qi0 1 D Y A r σ') 0 0 (FA 1 A) := by
  rw [f_X8_gain] at hf
  refine Met0 (cc := cX8_gain) (maxL := 4) (ret := (some .int)) (own := RX8) (by decide +kernel) rfl hAD rfl (Nat.le_of_ble_eq_true rfl) ?_
  intro p e s m args below meth c S hr hlocks hW ls hl
  obtain ⟨hx, hb, hml, hown, hts⟩ := id S
  have hl : lv_has ls 4 [(0, .int p0), (1, .int p1), (2, .int p2), (3, .int p3)] := hl
  refine lv_iload_n hx hb dX8_gain_0 rfl (lv_at hl 0 rfl) ?_
  refine lv_iload_n hx hb dX8_gain_1 rfl (lv_at hl 1 rfl) ?_
  refine lv_icmp_le (tgt := 16) hx hb dX8_gain_2 (by decide) (fun q1 => ?_) (fun q1 => ?_)
  · rw [if_pos q1] at hf
    refine lv_iconst (v := (0 : Int32)) hx hb dX8_gain_16 (by decide) ?_
    exact re_i hx hb hr hlocks hW (Option.some.inj hf) dX8_gain_17
  · rw [if_neg q1] at hf
    refine lv_iload_n hx hb dX8_gain_5 rfl (lv_at hl 0 rfl) ?_
    refine lv_iload_n hx hb dX8_gain_6 rfl (lv_at hl 3 rfl) ?_
    refine lv_icmp_lt (tgt := 16) hx hb dX8_gain_7 (by decide) (fun q2 => ?_) (fun q2 => ?_)
    · rw [if_pos q2] at hf
      refine lv_iconst (v := (0 : Int32)) hx hb dX8_gain_16 (by decide) ?_
      exact re_i hx hb hr hlocks hW (Option.some.inj hf) dX8_gain_17
    · rw [if_neg q2] at hf
      refine lv_iload_n hx hb dX8_gain_10 rfl (lv_at hl 2 rfl) ?_
      refine lv_iload_n hx hb dX8_gain_11 rfl (lv_at hl 0 rfl) ?_
      refine lv_isub hx hb dX8_gain_12 ?_
      refine lv_goto (tgt := 17) hx hb dX8_gain_13 (by decide) ?_
      exact re_i hx hb hr hlocks hW (Option.some.inj hf) dX8_gain_17
def f_X8_rests_j41 (x6_6 : Int32) (kb6 : Int32 → Int32 → ss_M → Option (Int32 × ss_M)) (s41_0 : Int32) (σ41_ : ss_M) : Option (Int32 × ss_M) :=
  kb6 s41_0 (x6_6 + (1 : Int32)) σ41_
def f_X8_rests_j40 (x6_6 : Int32) (kb6 : Int32 → Int32 → ss_M → Option (Int32 × ss_M)) (σ40_ : ss_M) : Option (Int32 × ss_M) :=
  f_X8_rests_j41 x6_6 kb6 (0 : Int32) σ40_
def f_X8_rests_L6 (p0 : Int32) (p1 : Int32) (p2 : Int32) (p3 : Int32) (p4 : Int32) : Nat → Int32 → Int32 → ss_M → Option (Int32 × ss_M)
  | 0, _, _, _ => none
  | n6 + 1, x6_5, x6_6, σ6_ => if p4 < x6_6 then (if x6_5 &&& (1 : Int32) = x6_5 then (some (x6_5, σ6_)) else none) else (if x6_5 = (0 : Int32) then (f_X8_rests_j40 x6_6 (f_X8_rests_L6 p0 p1 p2 p3 p4 n6) σ6_) else (ss_bd (f_X8_gain x6_6 p1 p2 p3 σ6_) (fun r4 σ4 => ss_bd (f_X8_gain p0 p1 p2 p3 σ4) (fun r5 σ5 => if r5 < r4 then (f_X8_rests_j40 x6_6 (f_X8_rests_L6 p0 p1 p2 p3 p4 n6) σ5) else (f_X8_rests_j41 x6_6 (f_X8_rests_L6 p0 p1 p2 p3 p4 n6) (1 : Int32) σ5)))))
def f_X8_rests (p0 : Int32) (p1 : Int32) (p2 : Int32) (p3 : Int32) (p4 : Int32) (σ : ss_M) : Option (Int32 × ss_M) :=
  f_X8_rests_L6 p0 p1 p2 p3 p4 FU (1 : Int32) (0 : Int32) σ
def rm_X8_rests : Room := { frames := 2, cells := 0, slots := 0, locals := 100 }
theorem hd_X8_rests : yX8_rests.cls ≠ "java/lang/invoke/MethodHandle" ∧ yX8_rests.cls ≠ "java/lang/invoke/VarHandle" ∧ (parseMethodDescriptor yX8_rests.desc).map (fun d => d.parameters.length) = some 5 := by decide +kernel
set_option maxHeartbeats 4000000 in
set_option maxRecDepth 100000 in
theorem c_X8_rests (l : Launch) {D : va_G} {Y : Nat → ClassId} {A : ss_A} (hAD : AD 1 A) {p0 : Int32} {p1 : Int32} {p2 : Int32} {p3 : Int32} {p4 : Int32}  {r : Int32} {σ σ' : ss_M} (hf : f_X8_rests p0 p1 p2 p3 p4 σ = some (r, σ')) : Met l yX8_rests wsX8_rests rm_X8_rests (Pc0 1 D Y A σ [.int p0, .int p1, .int p2, .int p3, .int p4]) (Qi0 1 D Y A r σ') 0 0 (FA 1 A) := by
  rw [f_X8_rests] at hf
  refine Met0 (cc := cX8_rests) (maxL := 7) (ret := (some .boolean)) (own := RX8) (by decide +kernel) rfl hAD rfl (Nat.le_of_ble_eq_true rfl) ?_
  intro p e s m args below meth c S hr hlocks hW ls hl
  obtain ⟨hx, hb, hml, hown, hts⟩ := id S
  have hl : lv_has ls 7 [(0, .int p0), (1, .int p1), (2, .int p2), (3, .int p3), (4, .int p4)] := hl
  refine lv_iconst (v := (1 : Int32)) hx hb dX8_rests_0 (by decide) ?_
  refine lv_istore (lv' := [(5, .int (1 : Int32)), (0, .int p0), (1, .int p1), (2, .int p2), (3, .int p3), (4, .int p4)]) hx hb dX8_rests_1 hl (by decide) rfl (fun ls hl => ?_)
  refine lv_iconst (v := (0 : Int32)) hx hb dX8_rests_3 (by decide) ?_
  refine lv_istore (lv' := [(6, .int (0 : Int32)), (5, .int (1 : Int32)), (0, .int p0), (1, .int p1), (2, .int p2), (3, .int p3), (4, .int p4)]) hx hb dX8_rests_4 hl (by decide) rfl (fun ls hl => ?_)
  have L6 : ∀ (n6 : Nat), ∀ (x6_5 : Int32) (x6_6 : Int32) (σ6_ : ss_M) (H : Heap) (locs : List Loc) (ls : Array Slot), sW 1 D Y A σ6_ s s.heap H locs → lv_has ls 7 [(0, .int p0), (1, .int p1), (2, .int p2), (3, .int p3), (4, .int p4), (5, .int x6_5), (6, .int x6_6)] → f_X8_rests_L6 p0 p1 p2 p3 p4 n6 x6_5 x6_6 σ6_ = some (r, σ') → W p l e rm_X8_rests s m args below meth c H locs 0 0 (MQ below (Qi0 1 D Y A r σ') args s 0 0 (FA 1 A)) (F0 m 6 ls []) := by
    intro n6
    induction n6 with
    | zero =>
      intro x6_5 x6_6 σ6_ H locs ls hW hl hf
      rw [f_X8_rests_L6] at hf
      cases hf
    | succ n6 ih6 =>
      intro x6_5 x6_6 σ6_ H locs ls hW hl hf
      rw [f_X8_rests_L6] at hf
      refine lv_iload hx hb dX8_rests_6 (lv_at hl 6 rfl) ?_
      refine lv_iload hx hb dX8_rests_8 (lv_at hl 4 rfl) ?_
      refine lv_icmp_gt (tgt := 49) hx hb dX8_rests_10 (by decide) (fun q1 => ?_) (fun q1 => ?_)
      · rw [if_pos q1] at hf
        refine lv_iload hx hb dX8_rests_49 (lv_at hl 5 rfl) ?_
        obtain ⟨g2, hf⟩ := ss_if hf
        exact re_z hx hb hr hlocks hW g2 (Option.some.inj hf) dX8_rests_51
      · rw [if_neg q1] at hf
        refine lv_iload hx hb dX8_rests_13 (lv_at hl 5 rfl) ?_
        have J41 : ∀ (s41_0 : Int32) (σ41_ : ss_M) (H : Heap) (locs : List Loc) (ls : Array Slot), sW 1 D Y A σ41_ s s.heap H locs → lv_has ls 7 [(0, .int p0), (1, .int p1), (2, .int p2), (3, .int p3), (4, .int p4), (6, .int x6_6)] → f_X8_rests_j41 x6_6 (f_X8_rests_L6 p0 p1 p2 p3 p4 n6) s41_0 σ41_ = some (r, σ') → W p l e rm_X8_rests s m args below meth c H locs 0 0 (MQ below (Qi0 1 D Y A r σ') args s 0 0 (FA 1 A)) (F0 m 41 ls [.int s41_0]) := by
          intro s41_0 σ41_ H locs ls hW hl hf
          rw [f_X8_rests_j41] at hf
          refine lv_istore (lv' := [(5, .int s41_0), (0, .int p0), (1, .int p1), (2, .int p2), (3, .int p3), (4, .int p4), (6, .int x6_6)]) hx hb dX8_rests_41 hl (by decide) rfl (fun ls hl => ?_)
          refine lv_iinc (v := (x6_6 + (1 : Int32))) (lv' := [(6, .int (x6_6 + (1 : Int32))), (5, .int s41_0), (0, .int p0), (1, .int p1), (2, .int p2), (3, .int p3), (4, .int p4)]) hx hb dX8_rests_43 hl (k := 6) rfl rfl (by decide) rfl (fun ls hl => ?_)
          refine lv_goto (tgt := 6) hx hb dX8_rests_46 (by decide) ?_
          exact ih6 s41_0 (x6_6 + (1 : Int32)) σ41_ _ _ _ hW (lv_sub hl [2, 3, 4, 5, 6, 1, 0] rfl) hf
        have J40 : ∀ (σ40_ : ss_M) (H : Heap) (locs : List Loc) (ls : Array Slot), sW 1 D Y A σ40_ s s.heap H locs → lv_has ls 7 [(0, .int p0), (1, .int p1), (2, .int p2), (3, .int p3), (4, .int p4), (6, .int x6_6)] → f_X8_rests_j40 x6_6 (f_X8_rests_L6 p0 p1 p2 p3 p4 n6) σ40_ = some (r, σ') → W p l e rm_X8_rests s m args below meth c H locs 0 0 (MQ below (Qi0 1 D Y A r σ') args s 0 0 (FA 1 A)) (F0 m 40 ls []) := by
          intro σ40_ H locs ls hW hl hf
          rw [f_X8_rests_j40] at hf
          refine lv_iconst (v := (0 : Int32)) hx hb dX8_rests_40 (by decide) ?_
          exact J41 (0 : Int32) σ40_ _ _ _ hW (lv_sub hl [0, 1, 2, 3, 4, 5] rfl) hf
        refine lv_if_eq (tgt := 40) hx hb dX8_rests_15 (by decide) (fun q3 => ?_) (fun q3 => ?_)
        · rw [if_pos q3] at hf
          exact J40 σ6_ _ _ _ hW (lv_sub hl [0, 1, 2, 3, 4, 6] rfl) hf
        · rw [if_neg q3] at hf
          refine lv_iload hx hb dX8_rests_18 (lv_at hl 6 rfl) ?_
          refine lv_iload_n hx hb dX8_rests_20 rfl (lv_at hl 1 rfl) ?_
          refine lv_iload_n hx hb dX8_rests_21 rfl (lv_at hl 2 rfl) ?_
          refine lv_iload_n hx hb dX8_rests_22 rfl (lv_at hl 3 rfl) ?_
          obtain ⟨r4, σ4, hf4, hf⟩ := ss_bd_some hf
          refine rt_i S (c_X8_gain l hAD  hf4) (va_cwS 4 hts gX8_rests_X8_gain rfl rfl rfl hd_X8_gain ⟨(Nat.le_of_ble_eq_true rfl), (Nat.le_of_ble_eq_true rfl)⟩) hW rfl rfl hl.1 (Nat.le_of_ble_eq_true rfl) ⟨Nat.zero_le _, Nat.zero_le _⟩ dX8_rests_23 (fun H locs hW => ?_)
          refine lv_iload_n hx hb dX8_rests_26 rfl (lv_at hl 0 rfl) ?_
          refine lv_iload_n hx hb dX8_rests_27 rfl (lv_at hl 1 rfl) ?_
          refine lv_iload_n hx hb dX8_rests_28 rfl (lv_at hl 2 rfl) ?_
          refine lv_iload_n hx hb dX8_rests_29 rfl (lv_at hl 3 rfl) ?_
          obtain ⟨r5, σ5, hf5, hf⟩ := ss_bd_some hf
          refine rt_i S (c_X8_gain l hAD  hf5) (va_cwS 4 hts gX8_rests_X8_gain rfl rfl rfl hd_X8_gain ⟨(Nat.le_of_ble_eq_true rfl), (Nat.le_of_ble_eq_true rfl)⟩) hW rfl rfl hl.1 (Nat.le_of_ble_eq_true rfl) ⟨Nat.zero_le _, Nat.zero_le _⟩ dX8_rests_30 (fun H locs hW => ?_)
          refine lv_icmp_gt (tgt := 40) hx hb dX8_rests_33 (by decide) (fun q6 => ?_) (fun q6 => ?_)
          · rw [if_pos q6] at hf
            exact J40 σ5 _ _ _ hW (lv_sub hl [0, 1, 2, 3, 4, 6] rfl) hf
          · rw [if_neg q6] at hf
            refine lv_iconst (v := (1 : Int32)) hx hb dX8_rests_36 (by decide) ?_
            refine lv_goto (tgt := 41) hx hb dX8_rests_37 (by decide) ?_
            exact J41 (1 : Int32) σ5 _ _ _ hW (lv_sub hl [0, 1, 2, 3, 4, 6] rfl) hf
  exact L6 FU (1 : Int32) (0 : Int32) σ _ _ _ hW (lv_sub hl [2, 3, 4, 5, 6, 1, 0] rfl) hf
