def f_X0_step_j103 (σ103_ : ss_M) : Option ss_M :=
  if gdc (0 : Int32) (0 : Int32) (31 : Int32) 31 31 = true then (some (sBu σ103_ 0 (va_cpy (sB σ103_ 1) (sB σ103_ 0) ((0 : Int32)).toNatClampNeg ((0 : Int32)).toNatClampNeg ((31 : Int32)).toNatClampNeg))) else none
def f_X0_step_L16 (o0 : Nat) (p1 : Int32) (p2 : Int32) (p3 : Int32) (k16_103 : ss_M → Option ss_M) : Nat → Int32 → ss_M → Option ss_M
  | 0, _, _ => none
  | n16 + 1, x16_5, σ16_ => if (sG σ16_ 3 o0) < x16_5 then (k16_103 σ16_) else (if gd p1 12 = true then (if gd p1 12 = true then (ss_bd (f_X1_breathBehind (sA σ16_ 0 o0 (p1).toNatClampNeg) (x16_5 - (sA σ16_ 4 o0 (p1).toNatClampNeg)) (sG σ16_ 3 o0) σ16_) (fun r7 σ7 => if gd (x16_5 - (sA σ16_ 4 o0 (p1).toNatClampNeg)) 31 = true then (if gd x16_5 31 = true then (if gd (x16_5 - (sA σ16_ 4 o0 (p1).toNatClampNeg)) 31 = true then (ss_let (sBu σ7 1 (vp_updL (sB σ7 1) ((x16_5 - (sA σ16_ 4 o0 (p1).toNatClampNeg))).toNatClampNeg ((sB σ7 1 ((x16_5 - (sA σ16_ 4 o0 (p1).toNatClampNeg))).toNatClampNeg) + ((sB σ7 0 (x16_5).toNatClampNeg) * (p2).toInt64)))) (fun σm11 => if gd r7 31 = true then (if gd x16_5 31 = true then (if gd r7 31 = true then ((f_X0_step_L16 o0 p1 p2 p3 k16_103 n16) (x16_5 + (1 : Int32)) (sBu σm11 1 (vp_updL (sB σm11 1) (r7).toNatClampNeg ((sB σm11 1 (r7).toNatClampNeg) + ((sB σm11 0 (x16_5).toNatClampNeg) * (p3).toInt64))))) else none) else none) else none)) else none) else none) else none)) else none) else none)
def f_X0_step (o0 : Nat) (p1 : Int32) (p2 : Int32) (p3 : Int32) (σ : ss_M) : Option ss_M :=
  Option.bind (f_J7_fill_d0a16 1 (0 : Int64) σ) (fun σ1 => if gd p1 12 = true then (f_X0_step_L16 o0 p1 p2 p3 (f_X0_step_j103) FU (sA σ1 4 o0 (p1).toNatClampNeg) σ1) else none)
def rm_X0_step : Room := { frames := 4, cells := 0, slots := 0, locals := 200 }
theorem hd_X0_step : yX0_step.cls = RX0 ∧ yX0_step.cls ≠ "java/lang/invoke/MethodHandle" ∧ yX0_step.cls ≠ "java/lang/invoke/VarHandle" ∧ (parseMethodDescriptor yX0_step.desc).map (fun d => d.parameters.length) = some 4 := by decide +kernel
set_option maxHeartbeats 4000000 in
set_option maxRecDepth 100000 in
theorem c_X0_step (l : Launch) {D : va_G} {Y : Nat → ClassId} {A : ss_A} (hAD : AD 0 A) {o0 : Nat} {p1 : Int32} {p2 : Int32} {p3 : Int32} (ho0 : o0 < 4) {σ σ' : ss_M} (hf : f_X0_step o0 p1 p2 p3 σ = some σ') : Met l yX0_step wsX0_step rm_X0_step (Pc0 0 D Y A σ [.ref (A 0 0 0), .ref (A 0 3 o0), .int p1, .int p2, .int p3]) (Qv0 0 D Y A σ') 0 0 (FA 0 A) := by
  rw [f_X0_step] at hf
  refine Met0 (cc := cX0_step) (maxL := 8) (ret := none) (own := RX0) (by decide +kernel) rfl hAD rfl (Nat.le_of_ble_eq_true rfl) ?_
  intro p e s m args below meth c S hr hlocks hW ls hl
  obtain ⟨hx, hb, hml, hown, hts⟩ := id S
  have iX0 : ∀ q ∈ wsX00, q ∈ wsX0_step := fun q h => List.mem_cons_of_mem _ (List.mem_append_left _ (List.mem_append_left _ (List.mem_append_right _ (h))))
  have iX4 : ∀ q ∈ wsX40, q ∈ wsX0_step := fun q h => List.mem_cons_of_mem _ (List.mem_append_left _ (List.mem_append_right _ (h)))
  have iX2 : ∀ q ∈ wsX20, q ∈ wsX0_step := fun q h => List.mem_cons_of_mem _ (List.mem_append_right _ (h))
  have hl : lv_has ls 8 [(0, .ref (A 0 0 0)), (1, .ref (A 0 3 o0)), (2, .int p1), (3, .int p2), (4, .int p3)] := hl
  refine lv_aload_n hx hb dX0_step_0 rfl (lv_at hl 0 rfl) ?_
  refine gf_X0_then hx hb hts hown hW (kS_in (by decide)) iX0 (List.mem_of_getElem? (i := 1) rfl) dX0_step_1 ?_
  refine lv_lconst (v := (0 : Int64)) hx hb dX0_step_4 (by decide) ?_
  obtain ⟨σ1, hf1, hf⟩ := ss_bind hf
  refine rt_v S (c_J7_fill_d0a16 l hAD (kS_in (by decide)) hf1) (va_cwS 2 hts gX0_step_J7_fill_d0a16 rfl rfl rfl hd_J7_fill_d0a16 ⟨(Nat.le_of_ble_eq_true rfl), (Nat.le_of_ble_eq_true rfl)⟩) hW rfl rfl hl.1 (Nat.le_of_ble_eq_true rfl) ⟨Nat.zero_le _, Nat.zero_le _⟩ dX0_step_5 (fun H locs hW => ?_)
  refine lv_aload_n hx hb dX0_step_8 rfl (lv_at hl 1 rfl) ?_
  refine gf_X4_lengths hx hb hts hown hW (kS_in ho0) iX4 (List.mem_of_getElem? (i := 2) rfl) dX0_step_9 ?_
  refine lv_iload_n hx hb dX0_step_12 rfl (lv_at hl 2 rfl) ?_
  obtain ⟨g2, hf⟩ := ss_if hf
  refine ra_i hx hb hW (kS_in ho0) g2 dX0_step_13 ?_
  refine lv_istore (lv' := [(5, .int (sA σ1 4 o0 (p1).toNatClampNeg)), (0, .ref (A 0 0 0)), (1, .ref (A 0 3 o0)), (2, .int p1), (3, .int p2), (4, .int p3)]) hx hb dX0_step_14 hl (by decide) rfl (fun ls hl => ?_)
  have J103 : ∀ (σ103_ : ss_M) (H : Heap) (locs : List Loc) (ls : Array Slot), sW 0 D Y A σ103_ s s.heap H locs → lv_has ls 8 [(0, .ref (A 0 0 0))] → f_X0_step_j103 σ103_ = some σ' → W p l e rm_X0_step s m args below meth c H locs 0 0 (MQ below (Qv0 0 D Y A σ') args s 0 0 (FA 0 A)) (F0 m 103 ls []) := by
    intro σ103_ H locs ls hW hl hf
    rw [f_X0_step_j103] at hf
    refine lv_aload_n hx hb dX0_step_103 rfl (lv_at hl 0 rfl) ?_
    refine gf_X0_then hx hb hts hown hW (kS_in (by decide)) iX0 (List.mem_of_getElem? (i := 1) rfl) dX0_step_104 ?_
    refine lv_iconst (v := (0 : Int32)) hx hb dX0_step_107 (by decide) ?_
    refine lv_aload_n hx hb dX0_step_108 rfl (lv_at hl 0 rfl) ?_
    refine gf_X0_now hx hb hts hown hW (kS_in (by decide)) iX0 (List.mem_of_getElem? (i := 6) rfl) dX0_step_109 ?_
    refine lv_iconst (v := (0 : Int32)) hx hb dX0_step_112 (by decide) ?_
    refine lv_aload_n hx hb dX0_step_113 rfl (lv_at hl 0 rfl) ?_
    refine gf_X0_now hx hb hts hown hW (kS_in (by decide)) iX0 (List.mem_of_getElem? (i := 6) rfl) dX0_step_114 ?_
    refine rl_l hx hb hW (kS_in (by decide)) dX0_step_117 ?_
    obtain ⟨g3, hf⟩ := ss_if hf
    refine rcpl hx hb hts hown (hml.trans hl.1.symm) (List.mem_of_getElem? (i := 7) rfl) (List.mem_of_getElem? (i := 8) rfl) (List.mem_of_getElem? (i := 9) rfl) (List.mem_of_getElem? (i := 10) rfl) hW (kS_in (by decide)) (kS_in (by decide)) g3 (Nat.le_of_ble_eq_true rfl) (Nat.le_of_ble_eq_true rfl) dX0_step_118 (fun H locs hW => ?_)
    exact re_v hx hb hr hlocks hW (Option.some.inj hf) dX0_step_121
  have L16 : ∀ (n16 : Nat), ∀ (x16_5 : Int32) (σ16_ : ss_M) (H : Heap) (locs : List Loc) (ls : Array Slot), sW 0 D Y A σ16_ s s.heap H locs → lv_has ls 8 [(0, .ref (A 0 0 0)), (1, .ref (A 0 3 o0)), (2, .int p1), (3, .int p2), (4, .int p3), (5, .int x16_5)] → f_X0_step_L16 o0 p1 p2 p3 (f_X0_step_j103) n16 x16_5 σ16_ = some σ' → W p l e rm_X0_step s m args below meth c H locs 0 0 (MQ below (Qv0 0 D Y A σ') args s 0 0 (FA 0 A)) (F0 m 16 ls []) := by
    intro n16
    induction n16 with
    | zero =>
      intro x16_5 σ16_ H locs ls hW hl hf
      rw [f_X0_step_L16] at hf
      cases hf
    | succ n16 ih16 =>
      intro x16_5 σ16_ H locs ls hW hl hf
      rw [f_X0_step_L16] at hf
      refine lv_iload hx hb dX0_step_16 (lv_at hl 5 rfl) ?_
      refine lv_aload_n hx hb dX0_step_18 rfl (lv_at hl 1 rfl) ?_
      refine gf_X4_breath hx hb hts hown hW (kS_in ho0) iX4 (List.mem_of_getElem? (i := 3) rfl) dX0_step_19 ?_
      refine lv_icmp_gt (tgt := 103) hx hb dX0_step_22 (by decide) (fun q4 => ?_) (fun q4 => ?_)
      · rw [if_pos q4] at hf
        exact J103 σ16_ _ _ _ hW (lv_sub hl [0] rfl) hf
      · rw [if_neg q4] at hf
        refine lv_iload hx hb dX0_step_25 (lv_at hl 5 rfl) ?_
        refine lv_aload_n hx hb dX0_step_27 rfl (lv_at hl 1 rfl) ?_
        refine gf_X4_lengths hx hb hts hown hW (kS_in ho0) iX4 (List.mem_of_getElem? (i := 2) rfl) dX0_step_28 ?_
        refine lv_iload_n hx hb dX0_step_31 rfl (lv_at hl 2 rfl) ?_
        obtain ⟨g5, hf⟩ := ss_if hf
        refine ra_i hx hb hW (kS_in ho0) g5 dX0_step_32 ?_
        refine lv_isub hx hb dX0_step_33 ?_
        refine lv_istore (lv' := [(6, .int (x16_5 - (sA σ16_ 4 o0 (p1).toNatClampNeg))), (0, .ref (A 0 0 0)), (1, .ref (A 0 3 o0)), (2, .int p1), (3, .int p2), (4, .int p3), (5, .int x16_5)]) hx hb dX0_step_34 hl (by decide) rfl (fun ls hl => ?_)
        refine lv_aload_n hx hb dX0_step_36 rfl (lv_at hl 2 rfl) ?_
        refine gf_X4_marks hx hb hts hown hW (kS_in ho0) iX4 (List.mem_of_getElem? (i := 4) rfl) dX0_step_37 ?_
        refine gf_X2_kinds hx hb hts hown hW (kS_in (Nat.lt_of_lt_of_le ho0 (by decide))) iX2 (List.mem_of_getElem? (i := 5) rfl) dX0_step_40 ?_
        refine lv_iload_n hx hb dX0_step_43 rfl (lv_at hl 3 rfl) ?_
        obtain ⟨g6, hf⟩ := ss_if hf
        refine ra_i hx hb hW (kS_in (Nat.lt_of_lt_of_le ho0 (by decide))) g6 dX0_step_44 ?_
        refine lv_iload hx hb dX0_step_45 (lv_at hl 0 rfl) ?_
        refine lv_aload_n hx hb dX0_step_47 rfl (lv_at hl 2 rfl) ?_
        refine gf_X4_breath hx hb hts hown hW (kS_in ho0) iX4 (List.mem_of_getElem? (i := 3) rfl) dX0_step_48 ?_
        obtain ⟨r7, σ7, hf7, hf⟩ := ss_bd_some hf
        refine rt_i S (c_X1_breathBehind l hAD  hf7) (va_cwS 3 hts gX0_step_X1_breathBehind rfl rfl rfl hd_X1_breathBehind ⟨(Nat.le_of_ble_eq_true rfl), (Nat.le_of_ble_eq_true rfl)⟩) hW rfl rfl hl.1 (Nat.le_of_ble_eq_true rfl) ⟨Nat.zero_le _, Nat.zero_le _⟩ dX0_step_51 (fun H locs hW => ?_)
        refine lv_istore (lv' := [(7, .int r7), (6, .int (x16_5 - (sA σ16_ 4 o0 (p1).toNatClampNeg))), (0, .ref (A 0 0 0)), (1, .ref (A 0 3 o0)), (2, .int p1), (3, .int p2), (4, .int p3), (5, .int x16_5)]) hx hb dX0_step_54 hl (by decide) rfl (fun ls hl => ?_)
        refine lv_aload_n hx hb dX0_step_56 rfl (lv_at hl 2 rfl) ?_
        refine gf_X0_then hx hb hts hown hW (kS_in (by decide)) iX0 (List.mem_of_getElem? (i := 1) rfl) dX0_step_57 ?_
        refine lv_iload hx hb dX0_step_60 (lv_at hl 1 rfl) ?_
        refine lv_dup2_11 hx hb dX0_step_62 rfl rfl ?_
        obtain ⟨g8, hf⟩ := ss_if hf
        refine ra_l hx hb hW (kS_in (by decide)) g8 dX0_step_63 ?_
        refine lv_aload_n hx hb dX0_step_64 rfl (lv_at hl 2 rfl) ?_
        refine gf_X0_now hx hb hts hown hW (kS_in (by decide)) iX0 (List.mem_of_getElem? (i := 6) rfl) dX0_step_65 ?_
        refine lv_iload hx hb dX0_step_68 (lv_at hl 7 rfl) ?_
        obtain ⟨g9, hf⟩ := ss_if hf
        refine ra_l hx hb hW (kS_in (by decide)) g9 dX0_step_70 ?_
        refine lv_iload_n hx hb dX0_step_71 rfl (lv_at hl 5 rfl) ?_
        refine lv_i2l hx hb dX0_step_72 rfl ?_
        refine lv_lmul hx hb dX0_step_73 ?_
        refine lv_ladd hx hb dX0_step_74 ?_
        obtain ⟨g10, hf⟩ := ss_if hf
        refine rs_l hx hb hW (kS_in (by decide)) g10 dX0_step_75 (fun H locs hW => ?_)
        obtain ⟨σm11, eσm11, hf⟩ := ss_let_some hf
        rw [← eσm11] at hW
        refine lv_aload_n hx hb dX0_step_76 rfl (lv_at hl 2 rfl) ?_
        refine gf_X0_then hx hb hts hown hW (kS_in (by decide)) iX0 (List.mem_of_getElem? (i := 1) rfl) dX0_step_77 ?_
        refine lv_iload hx hb dX0_step_80 (lv_at hl 0 rfl) ?_
        refine lv_dup2_11 hx hb dX0_step_82 rfl rfl ?_
        obtain ⟨g12, hf⟩ := ss_if hf
        refine ra_l hx hb hW (kS_in (by decide)) g12 dX0_step_83 ?_
        refine lv_aload_n hx hb dX0_step_84 rfl (lv_at hl 2 rfl) ?_
        refine gf_X0_now hx hb hts hown hW (kS_in (by decide)) iX0 (List.mem_of_getElem? (i := 6) rfl) dX0_step_85 ?_
        refine lv_iload hx hb dX0_step_88 (lv_at hl 7 rfl) ?_
        obtain ⟨g13, hf⟩ := ss_if hf
        refine ra_l hx hb hW (kS_in (by decide)) g13 dX0_step_90 ?_
        refine lv_iload hx hb dX0_step_91 (lv_at hl 6 rfl) ?_
        refine lv_i2l hx hb dX0_step_93 rfl ?_
        refine lv_lmul hx hb dX0_step_94 ?_
        refine lv_ladd hx hb dX0_step_95 ?_
        obtain ⟨g14, hf⟩ := ss_if hf
        refine rs_l hx hb hW (kS_in (by decide)) g14 dX0_step_96 (fun H locs hW => ?_)
        refine lv_iinc (v := (x16_5 + (1 : Int32))) (lv' := [(5, .int (x16_5 + (1 : Int32))), (7, .int r7), (6, .int (x16_5 - (sA σ16_ 4 o0 (p1).toNatClampNeg))), (0, .ref (A 0 0 0)), (1, .ref (A 0 3 o0)), (2, .int p1), (3, .int p2), (4, .int p3)]) hx hb dX0_step_97 hl (k := 7) rfl rfl (by decide) rfl (fun ls hl => ?_)
        refine lv_goto (tgt := 16) hx hb dX0_step_100 (by decide) ?_
        exact ih16 (x16_5 + (1 : Int32)) (sBu σm11 1 (vp_updL (sB σm11 1) (r7).toNatClampNeg ((sB σm11 1 (r7).toNatClampNeg) + ((sB σm11 0 (x16_5).toNatClampNeg) * (p3).toInt64)))) _ _ _ hW (lv_sub hl [3, 4, 5, 6, 7, 0] rfl) hf
  exact L16 FU (sA σ1 4 o0 (p1).toNatClampNeg) σ1 _ _ _ hW (lv_sub hl [1, 2, 3, 4, 5, 0] rfl) hf
def f_X0_setLowest_j80 (s80_0 : Int64) (σ80_ : ss_M) : Option ss_M :=
  some (sLu σ80_ 1 s80_0)
def f_X0_setLowest_j61 (p1 : Int64) (x45_5 : Int64) (s61_0 : Int64) (σ61_ : ss_M) : Option ss_M :=
  if (lg_cmp x45_5 (0 : Int64)) = (0 : Int32) then (f_X0_setLowest_j80 (1 : Int64) (sLu σ61_ 0 s61_0)) else (if ¬ x45_5 = (0 : Int64) then (f_X0_setLowest_j80 (p1 / x45_5) (sLu σ61_ 0 s61_0)) else none)
def f_X0_setLowest_j45 (p0 : Int64) (p1 : Int64) (x45_5 : Int64) (σ45_ : ss_M) : Option ss_M :=
  if (lg_cmp x45_5 (0 : Int64)) = (0 : Int32) then (f_X0_setLowest_j61 p1 x45_5 (0 : Int64) σ45_) else (if ¬ x45_5 = (0 : Int64) then (f_X0_setLowest_j61 p1 x45_5 (p0 / x45_5) σ45_) else none)
def f_X0_setLowest_L9 (k9_45 : Int64 → ss_M → Option ss_M) : Nat → Int64 → Int64 → Int32 → ss_M → Option ss_M
  | 0, _, _, _, _ => none
  | n9 + 1, x9_5, x9_7, x9_9, σ9_ => if (1000 : Int32) ≤ x9_9 then (k9_45 x9_5 σ9_) else (if (lg_cmp x9_7 (0 : Int64)) = (0 : Int32) then (k9_45 x9_5 σ9_) else (if ¬ x9_7 = (0 : Int64) then ((f_X0_setLowest_L9 k9_45 n9) x9_7 (x9_5 - x9_5 / x9_7 * x9_7) (x9_9 + (1 : Int32)) σ9_) else none))
def f_X0_setLowest (p0 : Int64) (p1 : Int64) (σ : ss_M) : Option ss_M :=
  f_X0_setLowest_L9 (f_X0_setLowest_j45 p0 p1) FU p1 p0 (0 : Int32) σ
def rm_X0_setLowest : Room := { frames := 0, cells := 0, slots := 0, locals := 0 }
theorem hd_X0_setLowest : yX0_setLowest.cls = RX0 ∧ yX0_setLowest.cls ≠ "java/lang/invoke/MethodHandle" ∧ yX0_setLowest.cls ≠ "java/lang/invoke/VarHandle" ∧ (parseMethodDescriptor yX0_setLowest.desc).map (fun d => d.parameters.length) = some 2 := by decide +kernel
set_option maxHeartbeats 4000000 in
set_option maxRecDepth 100000 in
theorem c_X0_setLowest (l : Launch) {D : va_G} {Y : Nat → ClassId} {A : ss_A} (hAD : AD 0 A) {p0 : Int64} {p1 : Int64}  {σ σ' : ss_M} (hf : f_X0_setLowest p0 p1 σ = some σ') : Met l yX0_setLowest wsX0_setLowest rm_X0_setLowest (Pc0 0 D Y A σ [.ref (A 0 0 0), .long p0, .long p1]) (Qv0 0 D Y A σ') 0 0 (FA 0 A) := by
  rw [f_X0_setLowest] at hf
  refine Met0 (cc := cX0_setLowest) (maxL := 12) (ret := none) (own := RX0) (by decide +kernel) rfl hAD rfl (Nat.le_of_ble_eq_true rfl) ?_
  intro p e s m args below meth c S hr hlocks hW ls hl
  obtain ⟨hx, hb, hml, hown, hts⟩ := id S
  have iX0 : ∀ q ∈ wsX00, q ∈ wsX0_setLowest := fun q h => List.mem_cons_of_mem _ (List.mem_append_right _ (h))
  have hl : lv_has ls 12 [(0, .ref (A 0 0 0)), (1, .long p0), (3, .long p1)] := hl
  refine lv_lload_n hx hb dX0_setLowest_0 rfl (lv_at hl 2 rfl) ?_
  refine lv_lstore (lv' := [(5, .long p1), (0, .ref (A 0 0 0)), (1, .long p0), (3, .long p1)]) hx hb dX0_setLowest_1 hl (by decide) rfl (fun ls hl => ?_)
  refine lv_lload_n hx hb dX0_setLowest_3 rfl (lv_at hl 2 rfl) ?_
  refine lv_lstore (lv' := [(7, .long p0), (5, .long p1), (0, .ref (A 0 0 0)), (1, .long p0), (3, .long p1)]) hx hb dX0_setLowest_4 hl (by decide) rfl (fun ls hl => ?_)
  refine lv_iconst (v := (0 : Int32)) hx hb dX0_setLowest_6 (by decide) ?_
  refine lv_istore (lv' := [(9, .int (0 : Int32)), (7, .long p0), (5, .long p1), (0, .ref (A 0 0 0)), (1, .long p0), (3, .long p1)]) hx hb dX0_setLowest_7 hl (by decide) rfl (fun ls hl => ?_)
  have J45 : ∀ (x45_5 : Int64) (σ45_ : ss_M) (H : Heap) (locs : List Loc) (ls : Array Slot), sW 0 D Y A σ45_ s s.heap H locs → lv_has ls 12 [(0, .ref (A 0 0 0)), (1, .long p0), (3, .long p1), (5, .long x45_5)] → f_X0_setLowest_j45 p0 p1 x45_5 σ45_ = some σ' → W p l e rm_X0_setLowest s m args below meth c H locs 0 0 (MQ below (Qv0 0 D Y A σ') args s 0 0 (FA 0 A)) (F0 m 45 ls []) := by
    intro x45_5 σ45_ H locs ls hW hl hf
    rw [f_X0_setLowest_j45] at hf
    refine lv_aload_n hx hb dX0_setLowest_45 rfl (lv_at hl 0 rfl) ?_
    refine lv_lload hx hb dX0_setLowest_46 (lv_at hl 3 rfl) ?_
    refine lv_lconst (v := (0 : Int64)) hx hb dX0_setLowest_48 (by decide) ?_
    refine W.lcmp hx hb dX0_setLowest_49 ?_
    have J61 : ∀ (s61_0 : Int64) (σ61_ : ss_M) (H : Heap) (locs : List Loc) (ls : Array Slot), sW 0 D Y A σ61_ s s.heap H locs → lv_has ls 12 [(0, .ref (A 0 0 0)), (3, .long p1), (5, .long x45_5)] → f_X0_setLowest_j61 p1 x45_5 s61_0 σ61_ = some σ' → W p l e rm_X0_setLowest s m args below meth c H locs 0 0 (MQ below (Qv0 0 D Y A σ') args s 0 0 (FA 0 A)) (F0 m 61 ls [.long s61_0, .ref (A 0 0 0)]) := by
      intro s61_0 σ61_ H locs ls hW hl hf
      rw [f_X0_setLowest_j61] at hf
      refine pf_X0_above hx hb hts hown hW (kS_in (by decide)) iX0 (List.mem_of_getElem? (i := 1) rfl) dX0_setLowest_61 (fun H locs hW => ?_)
      refine lv_aload_n hx hb dX0_setLowest_64 rfl (lv_at hl 0 rfl) ?_
      refine lv_lload hx hb dX0_setLowest_65 (lv_at hl 2 rfl) ?_
      refine lv_lconst (v := (0 : Int64)) hx hb dX0_setLowest_67 (by decide) ?_
      refine W.lcmp hx hb dX0_setLowest_68 ?_
      have J80 : ∀ (s80_0 : Int64) (σ80_ : ss_M) (H : Heap) (locs : List Loc) (ls : Array Slot), sW 0 D Y A σ80_ s s.heap H locs → lv_has ls 12 [] → f_X0_setLowest_j80 s80_0 σ80_ = some σ' → W p l e rm_X0_setLowest s m args below meth c H locs 0 0 (MQ below (Qv0 0 D Y A σ') args s 0 0 (FA 0 A)) (F0 m 80 ls [.long s80_0, .ref (A 0 0 0)]) := by
        intro s80_0 σ80_ H locs ls hW hl hf
        rw [f_X0_setLowest_j80] at hf
        refine pf_X0_below hx hb hts hown hW (kS_in (by decide)) iX0 (List.mem_of_getElem? (i := 2) rfl) dX0_setLowest_80 (fun H locs hW => ?_)
        exact re_v hx hb hr hlocks hW (Option.some.inj hf) dX0_setLowest_83
      refine lv_if_ne (tgt := 76) hx hb dX0_setLowest_69 (by decide) (fun q1 => ?_) (fun q1 => ?_)
      · rw [if_neg q1] at hf
        refine lv_lload_n hx hb dX0_setLowest_76 rfl (lv_at hl 1 rfl) ?_
        refine lv_lload hx hb dX0_setLowest_77 (lv_at hl 2 rfl) ?_
        obtain ⟨g2, hf⟩ := ss_if hf
        refine lv_ldiv hx hb dX0_setLowest_79 g2 ?_
        exact J80 (p1 / x45_5) (sLu σ61_ 0 s61_0) _ _ _ hW (lv_sub hl [] rfl) hf
      · rw [if_pos q1] at hf
        refine lv_lconst (v := (1 : Int64)) hx hb dX0_setLowest_72 (by decide) ?_
        refine lv_goto (tgt := 80) hx hb dX0_setLowest_73 (by decide) ?_
        exact J80 (1 : Int64) (sLu σ61_ 0 s61_0) _ _ _ hW (lv_sub hl [] rfl) hf
    refine lv_if_ne (tgt := 57) hx hb dX0_setLowest_50 (by decide) (fun q3 => ?_) (fun q3 => ?_)
    · rw [if_neg q3] at hf
      refine lv_lload_n hx hb dX0_setLowest_57 rfl (lv_at hl 1 rfl) ?_
      refine lv_lload hx hb dX0_setLowest_58 (lv_at hl 3 rfl) ?_
      obtain ⟨g4, hf⟩ := ss_if hf
      refine lv_ldiv hx hb dX0_setLowest_60 g4 ?_
      exact J61 (p0 / x45_5) σ45_ _ _ _ hW (lv_sub hl [0, 2, 3] rfl) hf
    · rw [if_pos q3] at hf
      refine lv_lconst (v := (0 : Int64)) hx hb dX0_setLowest_53 (by decide) ?_
      refine lv_goto (tgt := 61) hx hb dX0_setLowest_54 (by decide) ?_
      exact J61 (0 : Int64) σ45_ _ _ _ hW (lv_sub hl [0, 2, 3] rfl) hf
  have L9 : ∀ (n9 : Nat), ∀ (x9_5 : Int64) (x9_7 : Int64) (x9_9 : Int32) (σ9_ : ss_M) (H : Heap) (locs : List Loc) (ls : Array Slot), sW 0 D Y A σ9_ s s.heap H locs → lv_has ls 12 [(0, .ref (A 0 0 0)), (1, .long p0), (3, .long p1), (5, .long x9_5), (7, .long x9_7), (9, .int x9_9)] → f_X0_setLowest_L9 (f_X0_setLowest_j45 p0 p1) n9 x9_5 x9_7 x9_9 σ9_ = some σ' → W p l e rm_X0_setLowest s m args below meth c H locs 0 0 (MQ below (Qv0 0 D Y A σ') args s 0 0 (FA 0 A)) (F0 m 9 ls []) := by
    intro n9
    induction n9 with
    | zero =>
      intro x9_5 x9_7 x9_9 σ9_ H locs ls hW hl hf
      rw [f_X0_setLowest_L9] at hf
      cases hf
    | succ n9 ih9 =>
      intro x9_5 x9_7 x9_9 σ9_ H locs ls hW hl hf
      rw [f_X0_setLowest_L9] at hf
      refine lv_iload hx hb dX0_setLowest_9 (lv_at hl 5 rfl) ?_
      refine lv_sipush (v := (1000 : Int32)) hx hb dX0_setLowest_11 (by decide) ?_
      refine lv_icmp_ge (tgt := 45) hx hb dX0_setLowest_14 (by decide) (fun q5 => ?_) (fun q5 => ?_)
      · rw [if_pos q5] at hf
        exact J45 x9_5 σ9_ _ _ _ hW (lv_sub hl [0, 1, 2, 3] rfl) hf
      · rw [if_neg q5] at hf
        refine lv_lload hx hb dX0_setLowest_17 (lv_at hl 4 rfl) ?_
        refine lv_lconst (v := (0 : Int64)) hx hb dX0_setLowest_19 (by decide) ?_
        refine W.lcmp hx hb dX0_setLowest_20 ?_
        refine lv_if_eq (tgt := 45) hx hb dX0_setLowest_21 (by decide) (fun q6 => ?_) (fun q6 => ?_)
        · rw [if_pos q6] at hf
          exact J45 x9_5 σ9_ _ _ _ hW (lv_sub hl [0, 1, 2, 3] rfl) hf
        · rw [if_neg q6] at hf
          refine lv_lload hx hb dX0_setLowest_24 (lv_at hl 3 rfl) ?_
          refine lv_lload hx hb dX0_setLowest_26 (lv_at hl 4 rfl) ?_
          obtain ⟨g7, hf⟩ := ss_if hf
          refine lv_lrem hx hb dX0_setLowest_28 g7 ?_
          refine lv_lstore (lv' := [(10, .long (x9_5 - x9_5 / x9_7 * x9_7)), (0, .ref (A 0 0 0)), (1, .long p0), (3, .long p1), (5, .long x9_5), (7, .long x9_7), (9, .int x9_9)]) hx hb dX0_setLowest_29 hl (by decide) rfl (fun ls hl => ?_)
          refine lv_lload hx hb dX0_setLowest_31 (lv_at hl 5 rfl) ?_
          refine lv_lstore (lv' := [(5, .long x9_7), (10, .long (x9_5 - x9_5 / x9_7 * x9_7)), (0, .ref (A 0 0 0)), (1, .long p0), (3, .long p1), (7, .long x9_7), (9, .int x9_9)]) hx hb dX0_setLowest_33 hl (by decide) rfl (fun ls hl => ?_)
          refine lv_lload hx hb dX0_setLowest_35 (lv_at hl 1 rfl) ?_
          refine lv_lstore (lv' := [(7, .long (x9_5 - x9_5 / x9_7 * x9_7)), (5, .long x9_7), (10, .long (x9_5 - x9_5 / x9_7 * x9_7)), (0, .ref (A 0 0 0)), (1, .long p0), (3, .long p1), (9, .int x9_9)]) hx hb dX0_setLowest_37 hl (by decide) rfl (fun ls hl => ?_)
          refine lv_iinc (v := (x9_9 + (1 : Int32))) (lv' := [(9, .int (x9_9 + (1 : Int32))), (7, .long (x9_5 - x9_5 / x9_7 * x9_7)), (5, .long x9_7), (10, .long (x9_5 - x9_5 / x9_7 * x9_7)), (0, .ref (A 0 0 0)), (1, .long p0), (3, .long p1)]) hx hb dX0_setLowest_39 hl (k := 6) rfl rfl (by decide) rfl (fun ls hl => ?_)
          refine lv_goto (tgt := 9) hx hb dX0_setLowest_42 (by decide) ?_
          exact ih9 x9_7 (x9_5 - x9_5 / x9_7 * x9_7) (x9_9 + (1 : Int32)) σ9_ _ _ _ hW (lv_sub hl [4, 5, 6, 2, 1, 0] rfl) hf
  exact L9 FU p1 p0 (0 : Int32) σ _ _ _ hW (lv_sub hl [3, 4, 5, 2, 1, 0] rfl) hf
def f_X0_reckon_j137 (x104_3 : Int64) (x137_5 : Int64) (σ137_ : ss_M) : Option ss_M :=
  Option.bind (f_X0_setLowest x137_5 x104_3 σ137_) (fun σ3 => some σ3)
def f_X0_reckon_L110 (o0 : Nat) (k110_137 : Int64 → ss_M → Option ss_M) : Nat → Int64 → Int32 → ss_M → Option ss_M
  | 0, _, _, _ => none
  | n110 + 1, x110_5, x110_7, σ110_ => if (sG σ110_ 3 o0) < x110_7 then (k110_137 x110_5 σ110_) else (if gd x110_7 31 = true then ((f_X0_reckon_L110 o0 k110_137 n110) (x110_5 + (sB σ110_ 0 (x110_7).toNatClampNeg)) (x110_7 + (1 : Int32)) σ110_) else none)
def f_X0_reckon_j104 (o0 : Nat) (x104_3 : Int64) (σ104_ : ss_M) : Option ss_M :=
  f_X0_reckon_L110 o0 (f_X0_reckon_j137 x104_3) FU (0 : Int64) (0 : Int32) σ104_
def f_X0_reckon_j96 (x23_3 : Int64) (x23_5 : Int32) (kb23 : Int64 → Int32 → ss_M → Option ss_M) (s96_0 : Int64) (σ96_ : ss_M) : Option ss_M :=
  kb23 (x23_3 * s96_0) (x23_5 + (1 : Int32)) σ96_
def f_X0_reckon_j80 (o0 : Nat) (x23_3 : Int64) (x23_5 : Int32) (kb23 : Int64 → Int32 → ss_M → Option ss_M) (s51_0 : Int32) (s67_0 : Int32) (s80_0 : Int32) (σ80_ : ss_M) : Option ss_M :=
  Option.bind (f_X0_step o0 x23_5 s67_0 s80_0 σ80_) (fun σ8 => if s51_0 = (0 : Int32) then (f_X0_reckon_j96 x23_3 x23_5 kb23 (1 : Int64) σ8) else (f_X0_reckon_j96 x23_3 x23_5 kb23 (10 : Int64) σ8))
def f_X0_reckon_j67 (o0 : Nat) (p1 : Int32) (x23_3 : Int64) (x23_5 : Int32) (kb23 : Int64 → Int32 → ss_M → Option ss_M) (s51_0 : Int32) (s67_0 : Int32) (σ67_ : ss_M) : Option ss_M :=
  if s51_0 = (0 : Int32) then (f_X0_reckon_j80 o0 x23_3 x23_5 kb23 s51_0 s67_0 (0 : Int32) σ67_) else (f_X0_reckon_j80 o0 x23_3 x23_5 kb23 s51_0 s67_0 ((10 : Int32) - p1) σ67_)
def f_X0_reckon_j51 (o0 : Nat) (p1 : Int32) (x23_3 : Int64) (x23_5 : Int32) (kb23 : Int64 → Int32 → ss_M → Option ss_M) (s51_0 : Int32) (σ51_ : ss_M) : Option ss_M :=
  if s51_0 = (0 : Int32) then (f_X0_reckon_j67 o0 p1 x23_3 x23_5 kb23 s51_0 (1 : Int32) σ51_) else (f_X0_reckon_j67 o0 p1 x23_3 x23_5 kb23 s51_0 p1 σ51_)
def f_X0_reckon_L23 (o0 : Nat) (p1 : Int32) (k23_104 : Int64 → ss_M → Option ss_M) : Nat → Int64 → Int32 → ss_M → Option ss_M
  | 0, _, _, _ => none
  | n23 + 1, x23_3, x23_5, σ23_ => if (sG σ23_ 5 o0) ≤ x23_5 then (k23_104 x23_3 σ23_) else (if gd x23_5 12 = true then (if (sA σ23_ 0 o0 (x23_5).toNatClampNeg) = (-1 : Int32) then (f_X0_reckon_j51 o0 p1 x23_3 x23_5 (f_X0_reckon_L23 o0 p1 k23_104 n23) (0 : Int32) σ23_) else (f_X0_reckon_j51 o0 p1 x23_3 x23_5 (f_X0_reckon_L23 o0 p1 k23_104 n23) (1 : Int32) σ23_)) else none)
def f_X0_reckon (o0 : Nat) (p1 : Int32) (σ : ss_M) : Option ss_M :=
  Option.bind (f_J7_fill_d0a16 0 (0 : Int64) σ) (fun σ1 => if gd (sG σ1 3 o0) 31 = true then (f_X0_reckon_L23 o0 p1 (f_X0_reckon_j104 o0) FU (1 : Int64) (0 : Int32) (sBu σ1 0 (vp_updL (sB σ1 0) ((sG σ1 3 o0)).toNatClampNeg (1 : Int64)))) else none)
def rm_X0_reckon : Room := { frames := 6, cells := 0, slots := 0, locals := 300 }
theorem hd_X0_reckon : yX0_reckon.cls = RX0 ∧ yX0_reckon.cls ≠ "java/lang/invoke/MethodHandle" ∧ yX0_reckon.cls ≠ "java/lang/invoke/VarHandle" ∧ (parseMethodDescriptor yX0_reckon.desc).map (fun d => d.parameters.length) = some 2 := by decide +kernel
set_option maxHeartbeats 4000000 in
set_option maxRecDepth 100000 in
theorem c_X0_reckon (l : Launch) {D : va_G} {Y : Nat → ClassId} {A : ss_A} (hAD : AD 0 A) {o0 : Nat} {p1 : Int32} (ho0 : o0 < 4) {σ σ' : ss_M} (hf : f_X0_reckon o0 p1 σ = some σ') : Met l yX0_reckon wsX0_reckon rm_X0_reckon (Pc0 0 D Y A σ [.ref (A 0 0 0), .ref (A 0 3 o0), .int p1]) (Qv0 0 D Y A σ') 0 0 (FA 0 A) := by
  rw [f_X0_reckon] at hf
  refine Met0 (cc := cX0_reckon) (maxL := 8) (ret := none) (own := RX0) (by decide +kernel) rfl hAD rfl (Nat.le_of_ble_eq_true rfl) ?_
  intro p e s m args below meth c S hr hlocks hW ls hl
  obtain ⟨hx, hb, hml, hown, hts⟩ := id S
  have iX0 : ∀ q ∈ wsX00, q ∈ wsX0_reckon := fun q h => List.mem_cons_of_mem _ (List.mem_append_left _ (List.mem_append_left _ (List.mem_append_right _ (h))))
  have iX4 : ∀ q ∈ wsX40, q ∈ wsX0_reckon := fun q h => List.mem_cons_of_mem _ (List.mem_append_left _ (List.mem_append_right _ (h)))
  have iX2 : ∀ q ∈ wsX20, q ∈ wsX0_reckon := fun q h => List.mem_cons_of_mem _ (List.mem_append_right _ (h))
  have hl : lv_has ls 8 [(0, .ref (A 0 0 0)), (1, .ref (A 0 3 o0)), (2, .int p1)] := hl
  refine lv_lconst (v := (1 : Int64)) hx hb dX0_reckon_0 (by decide) ?_
  refine lv_lstore_n (lv' := [(3, .long (1 : Int64)), (0, .ref (A 0 0 0)), (1, .ref (A 0 3 o0)), (2, .int p1)]) hx hb dX0_reckon_1 rfl hl (by decide) rfl (fun ls hl => ?_)
  refine lv_aload_n hx hb dX0_reckon_2 rfl (lv_at hl 1 rfl) ?_
  refine gf_X0_now hx hb hts hown hW (kS_in (by decide)) iX0 (List.mem_of_getElem? (i := 1) rfl) dX0_reckon_3 ?_
  refine lv_lconst (v := (0 : Int64)) hx hb dX0_reckon_6 (by decide) ?_
  obtain ⟨σ1, hf1, hf⟩ := ss_bind hf
  refine rt_v S (c_J7_fill_d0a16 l hAD (kS_in (by decide)) hf1) (va_cwS 2 hts gX0_reckon_J7_fill_d0a16 rfl rfl rfl hd_J7_fill_d0a16 ⟨(Nat.le_of_ble_eq_true rfl), (Nat.le_of_ble_eq_true rfl)⟩) hW rfl rfl hl.1 (Nat.le_of_ble_eq_true rfl) ⟨Nat.zero_le _, Nat.zero_le _⟩ dX0_reckon_7 (fun H locs hW => ?_)
  refine lv_aload_n hx hb dX0_reckon_10 rfl (lv_at hl 1 rfl) ?_
  refine gf_X0_now hx hb hts hown hW (kS_in (by decide)) iX0 (List.mem_of_getElem? (i := 1) rfl) dX0_reckon_11 ?_
  refine lv_aload_n hx hb dX0_reckon_14 rfl (lv_at hl 2 rfl) ?_
  refine gf_X4_breath hx hb hts hown hW (kS_in ho0) iX4 (List.mem_of_getElem? (i := 2) rfl) dX0_reckon_15 ?_
  refine lv_lconst (v := (1 : Int64)) hx hb dX0_reckon_18 (by decide) ?_
  obtain ⟨g2, hf⟩ := ss_if hf
  refine rs_l hx hb hW (kS_in (by decide)) g2 dX0_reckon_19 (fun H locs hW => ?_)
  refine lv_iconst (v := (0 : Int32)) hx hb dX0_reckon_20 (by decide) ?_
  refine lv_istore (lv' := [(5, .int (0 : Int32)), (3, .long (1 : Int64)), (0, .ref (A 0 0 0)), (1, .ref (A 0 3 o0)), (2, .int p1)]) hx hb dX0_reckon_21 hl (by decide) rfl (fun ls hl => ?_)
  have J104 : ∀ (x104_3 : Int64) (σ104_ : ss_M) (H : Heap) (locs : List Loc) (ls : Array Slot), sW 0 D Y A σ104_ s s.heap H locs → lv_has ls 8 [(0, .ref (A 0 0 0)), (1, .ref (A 0 3 o0)), (3, .long x104_3)] → f_X0_reckon_j104 o0 x104_3 σ104_ = some σ' → W p l e rm_X0_reckon s m args below meth c H locs 0 0 (MQ below (Qv0 0 D Y A σ') args s 0 0 (FA 0 A)) (F0 m 104 ls []) := by
    intro x104_3 σ104_ H locs ls hW hl hf
    rw [f_X0_reckon_j104] at hf
    refine lv_lconst (v := (0 : Int64)) hx hb dX0_reckon_104 (by decide) ?_
    refine lv_lstore (lv' := [(5, .long (0 : Int64)), (0, .ref (A 0 0 0)), (1, .ref (A 0 3 o0)), (3, .long x104_3)]) hx hb dX0_reckon_105 hl (by decide) rfl (fun ls hl => ?_)
    refine lv_iconst (v := (0 : Int32)) hx hb dX0_reckon_107 (by decide) ?_
    refine lv_istore (lv' := [(7, .int (0 : Int32)), (5, .long (0 : Int64)), (0, .ref (A 0 0 0)), (1, .ref (A 0 3 o0)), (3, .long x104_3)]) hx hb dX0_reckon_108 hl (by decide) rfl (fun ls hl => ?_)
    have J137 : ∀ (x137_5 : Int64) (σ137_ : ss_M) (H : Heap) (locs : List Loc) (ls : Array Slot), sW 0 D Y A σ137_ s s.heap H locs → lv_has ls 8 [(0, .ref (A 0 0 0)), (3, .long x104_3), (5, .long x137_5)] → f_X0_reckon_j137 x104_3 x137_5 σ137_ = some σ' → W p l e rm_X0_reckon s m args below meth c H locs 0 0 (MQ below (Qv0 0 D Y A σ') args s 0 0 (FA 0 A)) (F0 m 137 ls []) := by
      intro x137_5 σ137_ H locs ls hW hl hf
      rw [f_X0_reckon_j137] at hf
      refine lv_aload_n hx hb dX0_reckon_137 rfl (lv_at hl 0 rfl) ?_
      refine lv_lload hx hb dX0_reckon_138 (lv_at hl 2 rfl) ?_
      refine lv_lload_n hx hb dX0_reckon_140 rfl (lv_at hl 1 rfl) ?_
      obtain ⟨σ3, hf3, hf⟩ := ss_bind hf
      refine rv_v S (c_X0_setLowest l hAD  hf3) (cwV 2 hts gX0_reckon_X0_setLowest rfl rfl rfl hd_X0_setLowest ⟨(Nat.le_of_ble_eq_true rfl), (Nat.le_of_ble_eq_true rfl)⟩) hW (kS_in (by decide)) rfl rfl rfl hl.1 (Nat.le_of_ble_eq_true rfl) ⟨Nat.zero_le _, Nat.zero_le _⟩ dX0_reckon_141 (fun H locs hW => ?_)
      exact re_v hx hb hr hlocks hW (Option.some.inj hf) dX0_reckon_144
    have L110 : ∀ (n110 : Nat), ∀ (x110_5 : Int64) (x110_7 : Int32) (σ110_ : ss_M) (H : Heap) (locs : List Loc) (ls : Array Slot), sW 0 D Y A σ110_ s s.heap H locs → lv_has ls 8 [(0, .ref (A 0 0 0)), (1, .ref (A 0 3 o0)), (3, .long x104_3), (5, .long x110_5), (7, .int x110_7)] → f_X0_reckon_L110 o0 (f_X0_reckon_j137 x104_3) n110 x110_5 x110_7 σ110_ = some σ' → W p l e rm_X0_reckon s m args below meth c H locs 0 0 (MQ below (Qv0 0 D Y A σ') args s 0 0 (FA 0 A)) (F0 m 110 ls []) := by
      intro n110
      induction n110 with
      | zero =>
        intro x110_5 x110_7 σ110_ H locs ls hW hl hf
        rw [f_X0_reckon_L110] at hf
        cases hf
      | succ n110 ih110 =>
        intro x110_5 x110_7 σ110_ H locs ls hW hl hf
        rw [f_X0_reckon_L110] at hf
        refine lv_iload hx hb dX0_reckon_110 (lv_at hl 4 rfl) ?_
        refine lv_aload_n hx hb dX0_reckon_112 rfl (lv_at hl 1 rfl) ?_
        refine gf_X4_breath hx hb hts hown hW (kS_in ho0) iX4 (List.mem_of_getElem? (i := 2) rfl) dX0_reckon_113 ?_
        refine lv_icmp_gt (tgt := 137) hx hb dX0_reckon_116 (by decide) (fun q4 => ?_) (fun q4 => ?_)
        · rw [if_pos q4] at hf
          exact J137 x110_5 σ110_ _ _ _ hW (lv_sub hl [0, 2, 3] rfl) hf
        · rw [if_neg q4] at hf
          refine lv_lload hx hb dX0_reckon_119 (lv_at hl 3 rfl) ?_
          refine lv_aload_n hx hb dX0_reckon_121 rfl (lv_at hl 0 rfl) ?_
          refine gf_X0_now hx hb hts hown hW (kS_in (by decide)) iX0 (List.mem_of_getElem? (i := 1) rfl) dX0_reckon_122 ?_
          refine lv_iload hx hb dX0_reckon_125 (lv_at hl 4 rfl) ?_
          obtain ⟨g5, hf⟩ := ss_if hf
          refine ra_l hx hb hW (kS_in (by decide)) g5 dX0_reckon_127 ?_
          refine lv_ladd hx hb dX0_reckon_128 ?_
          refine lv_lstore (lv' := [(5, .long (x110_5 + (sB σ110_ 0 (x110_7).toNatClampNeg))), (0, .ref (A 0 0 0)), (1, .ref (A 0 3 o0)), (3, .long x104_3), (7, .int x110_7)]) hx hb dX0_reckon_129 hl (by decide) rfl (fun ls hl => ?_)
          refine lv_iinc (v := (x110_7 + (1 : Int32))) (lv' := [(7, .int (x110_7 + (1 : Int32))), (5, .long (x110_5 + (sB σ110_ 0 (x110_7).toNatClampNeg))), (0, .ref (A 0 0 0)), (1, .ref (A 0 3 o0)), (3, .long x104_3)]) hx hb dX0_reckon_131 hl (k := 4) rfl rfl (by decide) rfl (fun ls hl => ?_)
          refine lv_goto (tgt := 110) hx hb dX0_reckon_134 (by decide) ?_
          exact ih110 (x110_5 + (sB σ110_ 0 (x110_7).toNatClampNeg)) (x110_7 + (1 : Int32)) σ110_ _ _ _ hW (lv_sub hl [2, 3, 4, 1, 0] rfl) hf
    exact L110 FU (0 : Int64) (0 : Int32) σ104_ _ _ _ hW (lv_sub hl [2, 3, 4, 1, 0] rfl) hf
  have L23 : ∀ (n23 : Nat), ∀ (x23_3 : Int64) (x23_5 : Int32) (σ23_ : ss_M) (H : Heap) (locs : List Loc) (ls : Array Slot), sW 0 D Y A σ23_ s s.heap H locs → lv_has ls 8 [(0, .ref (A 0 0 0)), (1, .ref (A 0 3 o0)), (2, .int p1), (3, .long x23_3), (5, .int x23_5)] → f_X0_reckon_L23 o0 p1 (f_X0_reckon_j104 o0) n23 x23_3 x23_5 σ23_ = some σ' → W p l e rm_X0_reckon s m args below meth c H locs 0 0 (MQ below (Qv0 0 D Y A σ') args s 0 0 (FA 0 A)) (F0 m 23 ls []) := by
    intro n23
    induction n23 with
    | zero =>
      intro x23_3 x23_5 σ23_ H locs ls hW hl hf
      rw [f_X0_reckon_L23] at hf
      cases hf
    | succ n23 ih23 =>
      intro x23_3 x23_5 σ23_ H locs ls hW hl hf
      rw [f_X0_reckon_L23] at hf
      refine lv_iload hx hb dX0_reckon_23 (lv_at hl 4 rfl) ?_
      refine lv_aload_n hx hb dX0_reckon_25 rfl (lv_at hl 1 rfl) ?_
      refine gf_X4_words hx hb hts hown hW (kS_in ho0) iX4 (List.mem_of_getElem? (i := 3) rfl) dX0_reckon_26 ?_
      refine lv_icmp_ge (tgt := 104) hx hb dX0_reckon_29 (by decide) (fun q6 => ?_) (fun q6 => ?_)
      · rw [if_pos q6] at hf
        exact J104 x23_3 σ23_ _ _ _ hW (lv_sub hl [0, 1, 3] rfl) hf
      · rw [if_neg q6] at hf
        refine lv_aload_n hx hb dX0_reckon_32 rfl (lv_at hl 1 rfl) ?_
        refine gf_X4_marks hx hb hts hown hW (kS_in ho0) iX4 (List.mem_of_getElem? (i := 4) rfl) dX0_reckon_33 ?_
        refine gf_X2_kinds hx hb hts hown hW (kS_in (Nat.lt_of_lt_of_le ho0 (by decide))) iX2 (List.mem_of_getElem? (i := 5) rfl) dX0_reckon_36 ?_
        refine lv_iload hx hb dX0_reckon_39 (lv_at hl 4 rfl) ?_
        obtain ⟨g7, hf⟩ := ss_if hf
        refine ra_i hx hb hW (kS_in (Nat.lt_of_lt_of_le ho0 (by decide))) g7 dX0_reckon_41 ?_
        refine lv_iconst (v := (-1 : Int32)) hx hb dX0_reckon_42 (by decide) ?_
        have J51 : ∀ (s51_0 : Int32) (σ51_ : ss_M) (H : Heap) (locs : List Loc) (ls : Array Slot), sW 0 D Y A σ51_ s s.heap H locs → lv_has ls 8 [(0, .ref (A 0 0 0)), (1, .ref (A 0 3 o0)), (2, .int p1), (3, .long x23_3), (5, .int x23_5)] → f_X0_reckon_j51 o0 p1 x23_3 x23_5 (f_X0_reckon_L23 o0 p1 (f_X0_reckon_j104 o0) n23) s51_0 σ51_ = some σ' → W p l e rm_X0_reckon s m args below meth c H locs 0 0 (MQ below (Qv0 0 D Y A σ') args s 0 0 (FA 0 A)) (F0 m 51 ls [.int s51_0]) := by
          intro s51_0 σ51_ H locs ls hW hl hf
          rw [f_X0_reckon_j51] at hf
          refine lv_istore (lv' := [(6, .int s51_0), (0, .ref (A 0 0 0)), (1, .ref (A 0 3 o0)), (2, .int p1), (3, .long x23_3), (5, .int x23_5)]) hx hb dX0_reckon_51 hl (by decide) rfl (fun ls hl => ?_)
          refine lv_aload_n hx hb dX0_reckon_53 rfl (lv_at hl 1 rfl) ?_
          refine lv_aload_n hx hb dX0_reckon_54 rfl (lv_at hl 2 rfl) ?_
          refine lv_iload hx hb dX0_reckon_55 (lv_at hl 5 rfl) ?_
          refine lv_iload hx hb dX0_reckon_57 (lv_at hl 0 rfl) ?_
          have J67 : ∀ (s67_0 : Int32) (σ67_ : ss_M) (H : Heap) (locs : List Loc) (ls : Array Slot), sW 0 D Y A σ67_ s s.heap H locs → lv_has ls 8 [(0, .ref (A 0 0 0)), (1, .ref (A 0 3 o0)), (2, .int p1), (3, .long x23_3), (5, .int x23_5), (6, .int s51_0)] → f_X0_reckon_j67 o0 p1 x23_3 x23_5 (f_X0_reckon_L23 o0 p1 (f_X0_reckon_j104 o0) n23) s51_0 s67_0 σ67_ = some σ' → W p l e rm_X0_reckon s m args below meth c H locs 0 0 (MQ below (Qv0 0 D Y A σ') args s 0 0 (FA 0 A)) (F0 m 67 ls [.int s67_0, .int x23_5, .ref (A 0 3 o0), .ref (A 0 0 0)]) := by
            intro s67_0 σ67_ H locs ls hW hl hf
            rw [f_X0_reckon_j67] at hf
            refine lv_iload hx hb dX0_reckon_67 (lv_at hl 5 rfl) ?_
            have J80 : ∀ (s80_0 : Int32) (σ80_ : ss_M) (H : Heap) (locs : List Loc) (ls : Array Slot), sW 0 D Y A σ80_ s s.heap H locs → lv_has ls 8 [(0, .ref (A 0 0 0)), (1, .ref (A 0 3 o0)), (2, .int p1), (3, .long x23_3), (5, .int x23_5), (6, .int s51_0)] → f_X0_reckon_j80 o0 x23_3 x23_5 (f_X0_reckon_L23 o0 p1 (f_X0_reckon_j104 o0) n23) s51_0 s67_0 s80_0 σ80_ = some σ' → W p l e rm_X0_reckon s m args below meth c H locs 0 0 (MQ below (Qv0 0 D Y A σ') args s 0 0 (FA 0 A)) (F0 m 80 ls [.int s80_0, .int s67_0, .int x23_5, .ref (A 0 3 o0), .ref (A 0 0 0)]) := by
              intro s80_0 σ80_ H locs ls hW hl hf
              rw [f_X0_reckon_j80] at hf
              obtain ⟨σ8, hf8, hf⟩ := ss_bind hf
              refine rv_v S (c_X0_step l hAD ho0 hf8) (cwV 4 hts gX0_reckon_X0_step rfl rfl rfl hd_X0_step ⟨(Nat.le_of_ble_eq_true rfl), (Nat.le_of_ble_eq_true rfl)⟩) hW (kS_in (by decide)) rfl rfl rfl hl.1 (Nat.le_of_ble_eq_true rfl) ⟨Nat.zero_le _, Nat.zero_le _⟩ dX0_reckon_80 (fun H locs hW => ?_)
              refine lv_lload_n hx hb dX0_reckon_83 rfl (lv_at hl 3 rfl) ?_
              refine lv_iload hx hb dX0_reckon_84 (lv_at hl 5 rfl) ?_
              have J96 : ∀ (s96_0 : Int64) (σ96_ : ss_M) (H : Heap) (locs : List Loc) (ls : Array Slot), sW 0 D Y A σ96_ s s.heap H locs → lv_has ls 8 [(0, .ref (A 0 0 0)), (1, .ref (A 0 3 o0)), (2, .int p1), (5, .int x23_5)] → f_X0_reckon_j96 x23_3 x23_5 (f_X0_reckon_L23 o0 p1 (f_X0_reckon_j104 o0) n23) s96_0 σ96_ = some σ' → W p l e rm_X0_reckon s m args below meth c H locs 0 0 (MQ below (Qv0 0 D Y A σ') args s 0 0 (FA 0 A)) (F0 m 96 ls [.long s96_0, .long x23_3]) := by
                intro s96_0 σ96_ H locs ls hW hl hf
                rw [f_X0_reckon_j96] at hf
                refine lv_lmul hx hb dX0_reckon_96 ?_
                refine lv_lstore_n (lv' := [(3, .long (x23_3 * s96_0)), (0, .ref (A 0 0 0)), (1, .ref (A 0 3 o0)), (2, .int p1), (5, .int x23_5)]) hx hb dX0_reckon_97 rfl hl (by decide) rfl (fun ls hl => ?_)
                refine lv_iinc (v := (x23_5 + (1 : Int32))) (lv' := [(5, .int (x23_5 + (1 : Int32))), (3, .long (x23_3 * s96_0)), (0, .ref (A 0 0 0)), (1, .ref (A 0 3 o0)), (2, .int p1)]) hx hb dX0_reckon_98 hl (k := 4) rfl rfl (by decide) rfl (fun ls hl => ?_)
                refine lv_goto (tgt := 23) hx hb dX0_reckon_101 (by decide) ?_
                exact ih23 (x23_3 * s96_0) (x23_5 + (1 : Int32)) σ96_ _ _ _ hW (lv_sub hl [2, 3, 4, 1, 0] rfl) hf
              refine lv_if_eq (tgt := 95) hx hb dX0_reckon_86 (by decide) (fun q9 => ?_) (fun q9 => ?_)
              · rw [if_pos q9] at hf
                refine lv_lconst (v := (1 : Int64)) hx hb dX0_reckon_95 (by decide) ?_
                exact J96 (1 : Int64) σ8 _ _ _ hW (lv_sub hl [0, 1, 2, 4] rfl) hf
              · rw [if_neg q9] at hf
                refine lv_ldc2 hx hb hown (hts _ (List.mem_of_getElem? (i := 6) rfl)) dX0_reckon_89 ?_
                refine lv_goto (tgt := 96) hx hb dX0_reckon_92 (by decide) ?_
                exact J96 (10 : Int64) σ8 _ _ _ hW (lv_sub hl [0, 1, 2, 4] rfl) hf
            refine lv_if_eq (tgt := 79) hx hb dX0_reckon_69 (by decide) (fun q10 => ?_) (fun q10 => ?_)
            · rw [if_pos q10] at hf
              refine lv_iconst (v := (0 : Int32)) hx hb dX0_reckon_79 (by decide) ?_
              exact J80 (0 : Int32) σ67_ _ _ _ hW (lv_sub hl [0, 1, 2, 3, 4, 5] rfl) hf
            · rw [if_neg q10] at hf
              refine lv_bipush (v := (10 : Int32)) hx hb dX0_reckon_72 (by decide) ?_
              refine lv_iload_n hx hb dX0_reckon_74 rfl (lv_at hl 2 rfl) ?_
              refine lv_isub hx hb dX0_reckon_75 ?_
              refine lv_goto (tgt := 80) hx hb dX0_reckon_76 (by decide) ?_
              exact J80 ((10 : Int32) - p1) σ67_ _ _ _ hW (lv_sub hl [0, 1, 2, 3, 4, 5] rfl) hf
          refine lv_if_eq (tgt := 66) hx hb dX0_reckon_59 (by decide) (fun q11 => ?_) (fun q11 => ?_)
          · rw [if_pos q11] at hf
            refine lv_iconst (v := (1 : Int32)) hx hb dX0_reckon_66 (by decide) ?_
            exact J67 (1 : Int32) σ51_ _ _ _ hW (lv_sub hl [1, 2, 3, 4, 5, 0] rfl) hf
          · rw [if_neg q11] at hf
            refine lv_iload_n hx hb dX0_reckon_62 rfl (lv_at hl 3 rfl) ?_
            refine lv_goto (tgt := 67) hx hb dX0_reckon_63 (by decide) ?_
            exact J67 p1 σ51_ _ _ _ hW (lv_sub hl [1, 2, 3, 4, 5, 0] rfl) hf
        refine lv_icmp_eq (tgt := 50) hx hb dX0_reckon_43 (by decide) (fun q12 => ?_) (fun q12 => ?_)
        · rw [if_pos q12] at hf
          refine lv_iconst (v := (0 : Int32)) hx hb dX0_reckon_50 (by decide) ?_
          exact J51 (0 : Int32) σ23_ _ _ _ hW (lv_sub hl [0, 1, 2, 3, 4] rfl) hf
        · rw [if_neg q12] at hf
          refine lv_iconst (v := (1 : Int32)) hx hb dX0_reckon_46 (by decide) ?_
          refine lv_goto (tgt := 51) hx hb dX0_reckon_47 (by decide) ?_
          exact J51 (1 : Int32) σ23_ _ _ _ hW (lv_sub hl [0, 1, 2, 3, 4] rfl) hf
  exact L23 FU (1 : Int64) (0 : Int32) (sBu σ1 0 (vp_updL (sB σ1 0) ((sG σ1 3 o0)).toNatClampNeg (1 : Int64))) _ _ _ hW (lv_sub hl [2, 3, 4, 1, 0] rfl) hf
