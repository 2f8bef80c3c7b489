def f_X7_drawn_j20 (σ20_ : ss_M) : Option (Int32 × ss_M) :=
  ss_bd (f_X7_bad (-2 : Int32) σ20_) (fun r2 σ2 => some (r2, σ2))
def f_X7_drawn_j131 (x36_6 : Int32) (kb36 : Int64 → Int32 → Int32 → ss_M → Option (Int32 × ss_M)) (x122_3 : Int64) (x131_5 : Int32) (σ131_ : ss_M) : Option (Int32 × ss_M) :=
  kb36 x122_3 x131_5 (x36_6 + (1 : Int32)) σ131_
def f_X7_drawn_j122 (x36_5 : Int32) (x36_6 : Int32) (kb36 : Int64 → Int32 → Int32 → ss_M → Option (Int32 × ss_M)) (x122_3 : Int64) (x122_7 : Int32) (σ122_ : ss_M) : Option (Int32 × ss_M) :=
  if x122_7 = (-1 : Int32) then (f_X7_drawn_j131 x36_6 kb36 x122_3 x36_5 σ122_) else (f_X7_drawn_j131 x36_6 kb36 x122_3 (x36_5 + (1 : Int32)) σ122_)
def f_X7_drawn_L54 (k54_122 : Int64 → Int32 → ss_M → Option (Int32 × ss_M)) : Nat → Int64 → Int32 → Int32 → ss_M → Option (Int32 × ss_M)
  | 0, _, _, _, _ => none
  | n54 + 1, x54_3, x54_7, x54_8, σ54_ => if (sG σ54_ 5 0) ≤ x54_8 then (k54_122 x54_3 x54_7 σ54_) else (ss_bd (f_X4_leftBehind 0 x54_8 (((((((x54_3 * (1103515245 : Int64)) + (12345 : Int64)) - ((x54_3 * (1103515245 : Int64)) + (12345 : Int64)) / (2147483648 : Int64) * (2147483648 : Int64)) / (65536 : Int64)) - ((((x54_3 * (1103515245 : Int64)) + (12345 : Int64)) - ((x54_3 * (1103515245 : Int64)) + (12345 : Int64)) / (2147483648 : Int64) * (2147483648 : Int64)) / (65536 : Int64)) / (9 : Int64) * (9 : Int64))).toInt32 + (1 : Int32)) x54_7 (sG σ54_ 3 0) σ54_) (fun r9 σ9 => (f_X7_drawn_L54 k54_122 n54) (((x54_3 * (1103515245 : Int64)) + (12345 : Int64)) - ((x54_3 * (1103515245 : Int64)) + (12345 : Int64)) / (2147483648 : Int64) * (2147483648 : Int64)) r9 (x54_8 + (1 : Int32)) σ9))
def f_X7_drawn_L36 (p1 : Int32) : Nat → Int64 → Int32 → Int32 → ss_M → Option (Int32 × ss_M)
  | 0, _, _, _, _ => none
  | n36 + 1, x36_3, x36_5, x36_6, σ36_ => if p1 ≤ x36_6 then (some (x36_5, σ36_)) else (f_X7_drawn_L54 (f_X7_drawn_j122 x36_5 x36_6 (f_X7_drawn_L36 p1 n36)) FU x36_3 (sG σ36_ 3 0) (0 : Int32) σ36_)
def f_X7_drawn (p0 : Int32) (p1 : Int32) (σ : ss_M) : Option (Int32 × ss_M) :=
  ss_bd (f_X7_isWithin p0 (0 : Int32) (999999 : Int32) σ) (fun r1 σ1 => if r1 = (0 : Int32) then (f_X7_drawn_j20 σ1) else (ss_bd (f_X7_isWithin p1 (0 : Int32) (60 : Int32) σ1) (fun r4 σ4 => if r4 = (0 : Int32) then (f_X7_drawn_j20 σ4) else (f_X7_drawn_L36 p1 FU ((p0).toInt64) (0 : Int32) (0 : Int32) σ4))))
def rm_X7_drawn : Room := { frames := 6, cells := 0, slots := 0, locals := 300 }
theorem hd_X7_drawn : yX7_drawn.cls = RX7 ∧ yX7_drawn.cls ≠ "java/lang/invoke/MethodHandle" ∧ yX7_drawn.cls ≠ "java/lang/invoke/VarHandle" ∧ (parseMethodDescriptor yX7_drawn.desc).map (fun d => d.parameters.length) = some 2 := by decide +kernel
set_option maxHeartbeats 4000000 in
set_option maxRecDepth 100000 in
theorem c_X7_drawn (l : Launch) {D : va_G} {Y : Nat → ClassId} {A : ss_A} (hAD : AD 0 A) {p0 : Int32} {p1 : Int32}  {r : Int32} {σ σ' : ss_M} (hf : f_X7_drawn p0 p1 σ = some (r, σ')) : Met l yX7_drawn wsX7_drawn rm_X7_drawn (Pc0 0 D Y A σ [.ref (A 0 6 0), .int p0, .int p1]) (Qi0 0 D Y A r σ') 0 0 (FA 0 A) := by
  rw [f_X7_drawn] at hf
  refine Met0 (cc := cX7_drawn) (maxL := 10) (ret := (some .int)) (own := RX7) (by decide +kernel) rfl hAD rfl (Nat.le_of_ble_eq_true rfl) ?_
  intro p e s m args below meth c S hr hlocks hW ls hl
  obtain ⟨hx, hb, hml, hown, hts⟩ := id S
  have iX7 : ∀ q ∈ wsX70, q ∈ wsX7_drawn := fun q h => List.mem_cons_of_mem _ (List.mem_append_left _ (List.mem_append_left _ (List.mem_append_right _ (h))))
  have iX4 : ∀ q ∈ wsX40, q ∈ wsX7_drawn := fun q h => List.mem_cons_of_mem _ (List.mem_append_left _ (List.mem_append_right _ (h)))
  have hl : lv_has ls 10 [(0, .ref (A 0 6 0)), (1, .int p0), (2, .int p1)] := hl
  refine lv_iload_n hx hb dX7_drawn_0 rfl (lv_at hl 1 rfl) ?_
  refine lv_iconst (v := (0 : Int32)) hx hb dX7_drawn_1 (by decide) ?_
  refine lv_ldc hx hb hown (hts _ (List.mem_of_getElem? (i := 1) rfl)) dX7_drawn_2 ?_
  obtain ⟨r1, σ1, hf1, hf⟩ := ss_bd_some hf
  refine rt_i S (c_X7_isWithin l hAD  hf1) (va_cwS 3 hts gX7_drawn_X7_isWithin rfl rfl rfl hd_X7_isWithin ⟨(Nat.le_of_ble_eq_true rfl), (Nat.le_of_ble_eq_true rfl)⟩) hW rfl rfl hl.1 (Nat.le_of_ble_eq_true rfl) ⟨Nat.zero_le _, Nat.zero_le _⟩ dX7_drawn_4 (fun H locs hW => ?_)
  have J20 : ∀ (σ20_ : ss_M) (H : Heap) (locs : List Loc) (ls : Array Slot), sW 0 D Y A σ20_ s s.heap H locs → lv_has ls 10 [(0, .ref (A 0 6 0))] → f_X7_drawn_j20 σ20_ = some (r, σ') → W p l e rm_X7_drawn s m args below meth c H locs 0 0 (MQ below (Qi0 0 D Y A r σ') args s 0 0 (FA 0 A)) (F0 m 20 ls []) := by
    intro σ20_ H locs ls hW hl hf
    rw [f_X7_drawn_j20] at hf
    refine lv_aload_n hx hb dX7_drawn_20 rfl (lv_at hl 0 rfl) ?_
    refine lv_bipush (v := (-2 : Int32)) hx hb dX7_drawn_21 (by decide) ?_
    obtain ⟨r2, σ2, hf2, hf⟩ := ss_bd_some hf
    refine rv_i S (c_X7_bad l hAD  hf2) (cwV 1 hts gX7_drawn_X7_bad rfl rfl rfl hd_X7_bad ⟨(Nat.le_of_ble_eq_true rfl), (Nat.le_of_ble_eq_true rfl)⟩) hW (kS_in (by decide)) rfl rfl rfl hl.1 (Nat.le_of_ble_eq_true rfl) ⟨Nat.zero_le _, Nat.zero_le _⟩ dX7_drawn_23 (fun H locs hW => ?_)
    exact re_i hx hb hr hlocks hW (Option.some.inj hf) dX7_drawn_26
  refine lv_if_eq (tgt := 20) hx hb dX7_drawn_7 (by decide) (fun q3 => ?_) (fun q3 => ?_)
  · rw [if_pos q3] at hf
    exact J20 σ1 _ _ _ hW (lv_sub hl [0] rfl) hf
  · rw [if_neg q3] at hf
    refine lv_iload_n hx hb dX7_drawn_10 rfl (lv_at hl 2 rfl) ?_
    refine lv_iconst (v := (0 : Int32)) hx hb dX7_drawn_11 (by decide) ?_
    refine lv_bipush (v := (60 : Int32)) hx hb dX7_drawn_12 (by decide) ?_
    obtain ⟨r4, σ4, hf4, hf⟩ := ss_bd_some hf
    refine rt_i S (c_X7_isWithin l hAD  hf4) (va_cwS 3 hts gX7_drawn_X7_isWithin rfl rfl rfl hd_X7_isWithin ⟨(Nat.le_of_ble_eq_true rfl), (Nat.le_of_ble_eq_true rfl)⟩) hW rfl rfl hl.1 (Nat.le_of_ble_eq_true rfl) ⟨Nat.zero_le _, Nat.zero_le _⟩ dX7_drawn_14 (fun H locs hW => ?_)
    refine lv_if_ne (tgt := 27) hx hb dX7_drawn_17 (by decide) (fun q5 => ?_) (fun q5 => ?_)
    · rw [if_neg q5] at hf
      refine lv_iload_n hx hb dX7_drawn_27 rfl (lv_at hl 1 rfl) ?_
      refine lv_i2l hx hb dX7_drawn_28 rfl ?_
      refine lv_lstore_n (lv' := [(3, .long ((p0).toInt64)), (0, .ref (A 0 6 0)), (1, .int p0), (2, .int p1)]) hx hb dX7_drawn_29 rfl hl (by decide) rfl (fun ls hl => ?_)
      refine lv_iconst (v := (0 : Int32)) hx hb dX7_drawn_30 (by decide) ?_
      refine lv_istore (lv' := [(5, .int (0 : Int32)), (3, .long ((p0).toInt64)), (0, .ref (A 0 6 0)), (1, .int p0), (2, .int p1)]) hx hb dX7_drawn_31 hl (by decide) rfl (fun ls hl => ?_)
      refine lv_iconst (v := (0 : Int32)) hx hb dX7_drawn_33 (by decide) ?_
      refine lv_istore (lv' := [(6, .int (0 : Int32)), (5, .int (0 : Int32)), (3, .long ((p0).toInt64)), (0, .ref (A 0 6 0)), (1, .int p0), (2, .int p1)]) hx hb dX7_drawn_34 hl (by decide) rfl (fun ls hl => ?_)
      have L36 : ∀ (n36 : Nat), ∀ (x36_3 : Int64) (x36_5 : Int32) (x36_6 : Int32) (σ36_ : ss_M) (H : Heap) (locs : List Loc) (ls : Array Slot), sW 0 D Y A σ36_ s s.heap H locs → lv_has ls 10 [(0, .ref (A 0 6 0)), (2, .int p1), (3, .long x36_3), (5, .int x36_5), (6, .int x36_6)] → f_X7_drawn_L36 p1 n36 x36_3 x36_5 x36_6 σ36_ = some (r, σ') → W p l e rm_X7_drawn s m args below meth c H locs 0 0 (MQ below (Qi0 0 D Y A r σ') args s 0 0 (FA 0 A)) (F0 m 36 ls []) := by
        intro n36
        induction n36 with
        | zero =>
          intro x36_3 x36_5 x36_6 σ36_ H locs ls hW hl hf
          rw [f_X7_drawn_L36] at hf
          cases hf
        | succ n36 ih36 =>
          intro x36_3 x36_5 x36_6 σ36_ H locs ls hW hl hf
          rw [f_X7_drawn_L36] at hf
          refine lv_iload hx hb dX7_drawn_36 (lv_at hl 4 rfl) ?_
          refine lv_iload_n hx hb dX7_drawn_38 rfl (lv_at hl 1 rfl) ?_
          refine lv_icmp_ge (tgt := 137) hx hb dX7_drawn_39 (by decide) (fun q6 => ?_) (fun q6 => ?_)
          · rw [if_pos q6] at hf
            refine lv_iload hx hb dX7_drawn_137 (lv_at hl 3 rfl) ?_
            exact re_i hx hb hr hlocks hW (Option.some.inj hf) dX7_drawn_139
          · rw [if_neg q6] at hf
            refine lv_aload_n hx hb dX7_drawn_42 rfl (lv_at hl 0 rfl) ?_
            refine gf_X7_page hx hb hts hown hW (kS_in (by decide)) iX7 (List.mem_of_getElem? (i := 2) rfl) dX7_drawn_43 ?_
            refine gf_X4_breath hx hb hts hown hW (kS_in (by decide)) iX4 (List.mem_of_getElem? (i := 3) rfl) dX7_drawn_46 ?_
            refine lv_istore (lv' := [(7, .int (sG σ36_ 3 0)), (0, .ref (A 0 6 0)), (2, .int p1), (3, .long x36_3), (5, .int x36_5), (6, .int x36_6)]) hx hb dX7_drawn_49 hl (by decide) rfl (fun ls hl => ?_)
            refine lv_iconst (v := (0 : Int32)) hx hb dX7_drawn_51 (by decide) ?_
            refine lv_istore (lv' := [(8, .int (0 : Int32)), (7, .int (sG σ36_ 3 0)), (0, .ref (A 0 6 0)), (2, .int p1), (3, .long x36_3), (5, .int x36_5), (6, .int x36_6)]) hx hb dX7_drawn_52 hl (by decide) rfl (fun ls hl => ?_)
            have J122 : ∀ (x122_3 : Int64) (x122_7 : Int32) (σ122_ : ss_M) (H : Heap) (locs : List Loc) (ls : Array Slot), sW 0 D Y A σ122_ s s.heap H locs → lv_has ls 10 [(0, .ref (A 0 6 0)), (2, .int p1), (3, .long x122_3), (5, .int x36_5), (6, .int x36_6), (7, .int x122_7)] → f_X7_drawn_j122 x36_5 x36_6 (f_X7_drawn_L36 p1 n36) x122_3 x122_7 σ122_ = some (r, σ') → W p l e rm_X7_drawn s m args below meth c H locs 0 0 (MQ below (Qi0 0 D Y A r σ') args s 0 0 (FA 0 A)) (F0 m 122 ls []) := by
              intro x122_3 x122_7 σ122_ H locs ls hW hl hf
              rw [f_X7_drawn_j122] at hf
              refine lv_iload hx hb dX7_drawn_122 (lv_at hl 5 rfl) ?_
              refine lv_iconst (v := (-1 : Int32)) hx hb dX7_drawn_124 (by decide) ?_
              have J131 : ∀ (x131_5 : Int32) (σ131_ : ss_M) (H : Heap) (locs : List Loc) (ls : Array Slot), sW 0 D Y A σ131_ s s.heap H locs → lv_has ls 10 [(0, .ref (A 0 6 0)), (2, .int p1), (3, .long x122_3), (5, .int x131_5), (6, .int x36_6)] → f_X7_drawn_j131 x36_6 (f_X7_drawn_L36 p1 n36) x122_3 x131_5 σ131_ = some (r, σ') → W p l e rm_X7_drawn s m args below meth c H locs 0 0 (MQ below (Qi0 0 D Y A r σ') args s 0 0 (FA 0 A)) (F0 m 131 ls []) := by
                intro x131_5 σ131_ H locs ls hW hl hf
                rw [f_X7_drawn_j131] at hf
                refine lv_iinc (v := (x36_6 + (1 : Int32))) (lv' := [(6, .int (x36_6 + (1 : Int32))), (0, .ref (A 0 6 0)), (2, .int p1), (3, .long x122_3), (5, .int x131_5)]) hx hb dX7_drawn_131 hl (k := 4) rfl rfl (by decide) rfl (fun ls hl => ?_)
                refine lv_goto (tgt := 36) hx hb dX7_drawn_134 (by decide) ?_
                exact ih36 x122_3 x131_5 (x36_6 + (1 : Int32)) σ131_ _ _ _ hW (lv_sub hl [1, 2, 3, 4, 0] rfl) hf
              refine lv_icmp_eq (tgt := 131) hx hb dX7_drawn_125 (by decide) (fun q7 => ?_) (fun q7 => ?_)
              · rw [if_pos q7] at hf
                exact J131 x36_5 σ122_ _ _ _ hW (lv_sub hl [0, 1, 2, 3, 4] rfl) hf
              · rw [if_neg q7] at hf
                refine lv_iinc (v := (x36_5 + (1 : Int32))) (lv' := [(5, .int (x36_5 + (1 : Int32))), (0, .ref (A 0 6 0)), (2, .int p1), (3, .long x122_3), (6, .int x36_6), (7, .int x122_7)]) hx hb dX7_drawn_128 hl (k := 3) rfl rfl (by decide) rfl (fun ls hl => ?_)
                exact J131 (x36_5 + (1 : Int32)) σ122_ _ _ _ hW (lv_sub hl [1, 2, 3, 0, 4] rfl) hf
            have L54 : ∀ (n54 : Nat), ∀ (x54_3 : Int64) (x54_7 : Int32) (x54_8 : Int32) (σ54_ : ss_M) (H : Heap) (locs : List Loc) (ls : Array Slot), sW 0 D Y A σ54_ s s.heap H locs → lv_has ls 10 [(0, .ref (A 0 6 0)), (2, .int p1), (3, .long x54_3), (5, .int x36_5), (6, .int x36_6), (7, .int x54_7), (8, .int x54_8)] → f_X7_drawn_L54 (f_X7_drawn_j122 x36_5 x36_6 (f_X7_drawn_L36 p1 n36)) n54 x54_3 x54_7 x54_8 σ54_ = some (r, σ') → W p l e rm_X7_drawn s m args below meth c H locs 0 0 (MQ below (Qi0 0 D Y A r σ') args s 0 0 (FA 0 A)) (F0 m 54 ls []) := by
              intro n54
              induction n54 with
              | zero =>
                intro x54_3 x54_7 x54_8 σ54_ H locs ls hW hl hf
                rw [f_X7_drawn_L54] at hf
                cases hf
              | succ n54 ih54 =>
                intro x54_3 x54_7 x54_8 σ54_ H locs ls hW hl hf
                rw [f_X7_drawn_L54] at hf
                refine lv_iload hx hb dX7_drawn_54 (lv_at hl 6 rfl) ?_
                refine lv_aload_n hx hb dX7_drawn_56 rfl (lv_at hl 0 rfl) ?_
                refine gf_X7_page hx hb hts hown hW (kS_in (by decide)) iX7 (List.mem_of_getElem? (i := 2) rfl) dX7_drawn_57 ?_
                refine gf_X4_words hx hb hts hown hW (kS_in (by decide)) iX4 (List.mem_of_getElem? (i := 4) rfl) dX7_drawn_60 ?_
                refine lv_icmp_ge (tgt := 122) hx hb dX7_drawn_63 (by decide) (fun q8 => ?_) (fun q8 => ?_)
                · rw [if_pos q8] at hf
                  exact J122 x54_3 x54_7 σ54_ _ _ _ hW (lv_sub hl [0, 1, 2, 3, 4, 5] rfl) hf
                · rw [if_neg q8] at hf
                  refine lv_lload_n hx hb dX7_drawn_66 rfl (lv_at hl 2 rfl) ?_
                  refine lv_ldc2 hx hb hown (hts _ (List.mem_of_getElem? (i := 5) rfl)) dX7_drawn_67 ?_
                  refine lv_lmul hx hb dX7_drawn_70 ?_
                  refine lv_ldc2 hx hb hown (hts _ (List.mem_of_getElem? (i := 6) rfl)) dX7_drawn_71 ?_
                  refine lv_ladd hx hb dX7_drawn_74 ?_
                  refine lv_ldc2 hx hb hown (hts _ (List.mem_of_getElem? (i := 7) rfl)) dX7_drawn_75 ?_
                  refine lv_lrem hx hb dX7_drawn_78 (by decide) ?_
                  refine lv_lstore_n (lv' := [(3, .long (((x54_3 * (1103515245 : Int64)) + (12345 : Int64)) - ((x54_3 * (1103515245 : Int64)) + (12345 : Int64)) / (2147483648 : Int64) * (2147483648 : Int64))), (0, .ref (A 0 6 0)), (2, .int p1), (5, .int x36_5), (6, .int x36_6), (7, .int x54_7), (8, .int x54_8)]) hx hb dX7_drawn_79 rfl hl (by decide) rfl (fun ls hl => ?_)
                  refine lv_lload_n hx hb dX7_drawn_80 rfl (lv_at hl 0 rfl) ?_
                  refine lv_ldc2 hx hb hown (hts _ (List.mem_of_getElem? (i := 8) rfl)) dX7_drawn_81 ?_
                  refine lv_ldiv hx hb dX7_drawn_84 (by decide) ?_
                  refine lv_ldc2 hx hb hown (hts _ (List.mem_of_getElem? (i := 9) rfl)) dX7_drawn_85 ?_
                  refine lv_lrem hx hb dX7_drawn_88 (by decide) ?_
                  refine lv_l2i hx hb dX7_drawn_89 rfl ?_
                  refine lv_iconst (v := (1 : Int32)) hx hb dX7_drawn_90 (by decide) ?_
                  refine lv_iadd hx hb dX7_drawn_91 ?_
                  refine lv_istore (lv' := [(9, .int (((((((x54_3 * (1103515245 : Int64)) + (12345 : Int64)) - ((x54_3 * (1103515245 : Int64)) + (12345 : Int64)) / (2147483648 : Int64) * (2147483648 : Int64)) / (65536 : Int64)) - ((((x54_3 * (1103515245 : Int64)) + (12345 : Int64)) - ((x54_3 * (1103515245 : Int64)) + (12345 : Int64)) / (2147483648 : Int64) * (2147483648 : Int64)) / (65536 : Int64)) / (9 : Int64) * (9 : Int64))).toInt32 + (1 : Int32))), (3, .long (((x54_3 * (1103515245 : Int64)) + (12345 : Int64)) - ((x54_3 * (1103515245 : Int64)) + (12345 : Int64)) / (2147483648 : Int64) * (2147483648 : Int64))), (0, .ref (A 0 6 0)), (2, .int p1), (5, .int x36_5), (6, .int x36_6), (7, .int x54_7), (8, .int x54_8)]) hx hb dX7_drawn_92 hl (by decide) rfl (fun ls hl => ?_)
                  refine lv_aload_n hx hb dX7_drawn_94 rfl (lv_at hl 2 rfl) ?_
                  refine gf_X7_page hx hb hts hown hW (kS_in (by decide)) iX7 (List.mem_of_getElem? (i := 2) rfl) dX7_drawn_95 ?_
                  refine lv_iload hx hb dX7_drawn_98 (lv_at hl 7 rfl) ?_
                  refine lv_iload hx hb dX7_drawn_100 (lv_at hl 0 rfl) ?_
                  refine lv_iload hx hb dX7_drawn_102 (lv_at hl 6 rfl) ?_
                  refine lv_aload_n hx hb dX7_drawn_104 rfl (lv_at hl 2 rfl) ?_
                  refine gf_X7_page hx hb hts hown hW (kS_in (by decide)) iX7 (List.mem_of_getElem? (i := 2) rfl) dX7_drawn_105 ?_
                  refine gf_X4_breath hx hb hts hown hW (kS_in (by decide)) iX4 (List.mem_of_getElem? (i := 3) rfl) dX7_drawn_108 ?_
                  obtain ⟨r9, σ9, hf9, hf⟩ := ss_bd_some hf
                  refine rv_i S (c_X4_leftBehind l hAD (by decide) hf9) (cwV 4 hts gX7_drawn_X4_leftBehind rfl rfl rfl hd_X4_leftBehind ⟨(Nat.le_of_ble_eq_true rfl), (Nat.le_of_ble_eq_true rfl)⟩) hW (kS_in (by decide)) rfl rfl rfl hl.1 (Nat.le_of_ble_eq_true rfl) ⟨Nat.zero_le _, Nat.zero_le _⟩ dX7_drawn_111 (fun H locs hW => ?_)
                  refine lv_istore (lv' := [(7, .int r9), (9, .int (((((((x54_3 * (1103515245 : Int64)) + (12345 : Int64)) - ((x54_3 * (1103515245 : Int64)) + (12345 : Int64)) / (2147483648 : Int64) * (2147483648 : Int64)) / (65536 : Int64)) - ((((x54_3 * (1103515245 : Int64)) + (12345 : Int64)) - ((x54_3 * (1103515245 : Int64)) + (12345 : Int64)) / (2147483648 : Int64) * (2147483648 : Int64)) / (65536 : Int64)) / (9 : Int64) * (9 : Int64))).toInt32 + (1 : Int32))), (3, .long (((x54_3 * (1103515245 : Int64)) + (12345 : Int64)) - ((x54_3 * (1103515245 : Int64)) + (12345 : Int64)) / (2147483648 : Int64) * (2147483648 : Int64))), (0, .ref (A 0 6 0)), (2, .int p1), (5, .int x36_5), (6, .int x36_6), (8, .int x54_8)]) hx hb dX7_drawn_114 hl (by decide) rfl (fun ls hl => ?_)
                  refine lv_iinc (v := (x54_8 + (1 : Int32))) (lv' := [(8, .int (x54_8 + (1 : Int32))), (7, .int r9), (9, .int (((((((x54_3 * (1103515245 : Int64)) + (12345 : Int64)) - ((x54_3 * (1103515245 : Int64)) + (12345 : Int64)) / (2147483648 : Int64) * (2147483648 : Int64)) / (65536 : Int64)) - ((((x54_3 * (1103515245 : Int64)) + (12345 : Int64)) - ((x54_3 * (1103515245 : Int64)) + (12345 : Int64)) / (2147483648 : Int64) * (2147483648 : Int64)) / (65536 : Int64)) / (9 : Int64) * (9 : Int64))).toInt32 + (1 : Int32))), (3, .long (((x54_3 * (1103515245 : Int64)) + (12345 : Int64)) - ((x54_3 * (1103515245 : Int64)) + (12345 : Int64)) / (2147483648 : Int64) * (2147483648 : Int64))), (0, .ref (A 0 6 0)), (2, .int p1), (5, .int x36_5), (6, .int x36_6)]) hx hb dX7_drawn_116 hl (k := 7) rfl rfl (by decide) rfl (fun ls hl => ?_)
                  refine lv_goto (tgt := 54) hx hb dX7_drawn_119 (by decide) ?_
                  exact ih54 (((x54_3 * (1103515245 : Int64)) + (12345 : Int64)) - ((x54_3 * (1103515245 : Int64)) + (12345 : Int64)) / (2147483648 : Int64) * (2147483648 : Int64)) r9 (x54_8 + (1 : Int32)) σ9 _ _ _ hW (lv_sub hl [4, 5, 3, 6, 7, 1, 0] rfl) hf
            exact L54 FU x36_3 (sG σ36_ 3 0) (0 : Int32) σ36_ _ _ _ hW (lv_sub hl [2, 3, 4, 5, 6, 1, 0] rfl) hf
      exact L36 FU ((p0).toInt64) (0 : Int32) (0 : Int32) σ4 _ _ _ hW (lv_sub hl [3, 5, 2, 1, 0] rfl) hf
    · rw [if_pos q5] at hf
      exact J20 σ4 _ _ _ hW (lv_sub hl [0] rfl) hf
def f_X7_part (p0 : Int32) (σ : ss_M) : Option (Int64 × ss_M) :=
  ss_bd (f_X7_isWithin p0 (0 : Int32) (1 : Int32) σ) (fun r1 σ1 => if r1 = (0 : Int32) then (ss_bd (f_X7_bad (-2 : Int32) σ1) (fun r4 σ4 => some ((r4).toInt64, σ4))) else (if p0 = (0 : Int32) then (some ((sL σ1 0), σ1)) else (some ((sL σ1 1), σ1))))
def rm_X7_part : Room := { frames := 2, cells := 0, slots := 0, locals := 100 }
theorem hd_X7_part : yX7_part.cls = RX7 ∧ yX7_part.cls ≠ "java/lang/invoke/MethodHandle" ∧ yX7_part.cls ≠ "java/lang/invoke/VarHandle" ∧ (parseMethodDescriptor yX7_part.desc).map (fun d => d.parameters.length) = some 1 := by decide +kernel
set_option maxHeartbeats 4000000 in
set_option maxRecDepth 100000 in
theorem c_X7_part (l : Launch) {D : va_G} {Y : Nat → ClassId} {A : ss_A} (hAD : AD 0 A) {p0 : Int32}  {r : Int64} {σ σ' : ss_M} (hf : f_X7_part p0 σ = some (r, σ')) : Met l yX7_part wsX7_part rm_X7_part (Pc0 0 D Y A σ [.ref (A 0 6 0), .int p0]) (Ql0 0 D Y A r σ') 0 0 (FA 0 A) := by
  rw [f_X7_part] at hf
  refine Met0 (cc := cX7_part) (maxL := 2) (ret := (some .long)) (own := RX7) (by decide +kernel) rfl hAD rfl (Nat.le_of_ble_eq_true rfl) ?_
  intro p e s m args below meth c S hr hlocks hW ls hl
  obtain ⟨hx, hb, hml, hown, hts⟩ := id S
  have iX7 : ∀ q ∈ wsX70, q ∈ wsX7_part := fun q h => List.mem_cons_of_mem _ (List.mem_append_left _ (List.mem_append_right _ (h)))
  have iX0 : ∀ q ∈ wsX00, q ∈ wsX7_part := fun q h => List.mem_cons_of_mem _ (List.mem_append_right _ (h))
  have hl : lv_has ls 2 [(0, .ref (A 0 6 0)), (1, .int p0)] := hl
  refine lv_iload_n hx hb dX7_part_0 rfl (lv_at hl 1 rfl) ?_
  refine lv_iconst (v := (0 : Int32)) hx hb dX7_part_1 (by decide) ?_
  refine lv_iconst (v := (1 : Int32)) hx hb dX7_part_2 (by decide) ?_
  obtain ⟨r1, σ1, hf1, hf⟩ := ss_bd_some hf
  refine rt_i S (c_X7_isWithin l hAD  hf1) (va_cwS 3 hts gX7_part_X7_isWithin rfl rfl rfl hd_X7_isWithin ⟨(Nat.le_of_ble_eq_true rfl), (Nat.le_of_ble_eq_true rfl)⟩) hW rfl rfl hl.1 (Nat.le_of_ble_eq_true rfl) ⟨Nat.zero_le _, Nat.zero_le _⟩ dX7_part_3 (fun H locs hW => ?_)
  refine lv_if_ne (tgt := 17) hx hb dX7_part_6 (by decide) (fun q2 => ?_) (fun q2 => ?_)
  · rw [if_neg q2] at hf
    refine lv_iload_n hx hb dX7_part_17 rfl (lv_at hl 1 rfl) ?_
    refine lv_if_ne (tgt := 31) hx hb dX7_part_18 (by decide) (fun q3 => ?_) (fun q3 => ?_)
    · rw [if_neg q3] at hf
      refine lv_aload_n hx hb dX7_part_31 rfl (lv_at hl 0 rfl) ?_
      refine gf_X7_chance hx hb hts hown hW (kS_in (by decide)) iX7 (List.mem_of_getElem? (i := 1) rfl) dX7_part_32 ?_
      refine gf_X0_below hx hb hts hown hW (kS_in (by decide)) iX0 (List.mem_of_getElem? (i := 3) rfl) dX7_part_35 ?_
      exact re_l hx hb hr hlocks hW (Option.some.inj hf) dX7_part_38
    · rw [if_pos q3] at hf
      refine lv_aload_n hx hb dX7_part_21 rfl (lv_at hl 0 rfl) ?_
      refine gf_X7_chance hx hb hts hown hW (kS_in (by decide)) iX7 (List.mem_of_getElem? (i := 1) rfl) dX7_part_22 ?_
      refine gf_X0_above hx hb hts hown hW (kS_in (by decide)) iX0 (List.mem_of_getElem? (i := 2) rfl) dX7_part_25 ?_
      refine lv_goto (tgt := 38) hx hb dX7_part_28 (by decide) ?_
      exact re_l hx hb hr hlocks hW (Option.some.inj hf) dX7_part_38
  · rw [if_pos q2] at hf
    refine lv_aload_n hx hb dX7_part_9 rfl (lv_at hl 0 rfl) ?_
    refine lv_bipush (v := (-2 : Int32)) hx hb dX7_part_10 (by decide) ?_
    obtain ⟨r4, σ4, hf4, hf⟩ := ss_bd_some hf
    refine rv_i S (c_X7_bad l hAD  hf4) (cwV 1 hts gX7_part_X7_bad rfl rfl rfl hd_X7_bad ⟨(Nat.le_of_ble_eq_true rfl), (Nat.le_of_ble_eq_true rfl)⟩) hW (kS_in (by decide)) rfl rfl rfl hl.1 (Nat.le_of_ble_eq_true rfl) ⟨Nat.zero_le _, Nat.zero_le _⟩ dX7_part_12 (fun H locs hW => ?_)
    refine lv_i2l hx hb dX7_part_15 rfl ?_
    exact re_l hx hb hr hlocks hW (Option.some.inj hf) dX7_part_16
def f_X7_image (p0 : Int32) (σ : ss_M) : Option (Int32 × ss_M) :=
  ss_bd (f_X7_isWithin p0 (0 : Int32) (1 : Int32) σ) (fun r1 σ1 => if r1 = (0 : Int32) then (ss_bd (f_X7_bad (-2 : Int32) σ1) (fun r6 σ6 => some (r6, σ6))) else (if gd p0 2 = true then (Option.bind (f_X4_copy (2 + (p0).toNatClampNeg) 0 σ1) (fun σ4 => if gd p0 2 = true then (some ((1 : Int32), (sAu σ4 101 0 (upd (sA σ4 101 0) (p0).toNatClampNeg (1 : Int32))))) else none)) else none))
def rm_X7_image : Room := { frames := 6, cells := 0, slots := 0, locals := 300 }
theorem hd_X7_image : yX7_image.cls = RX7 ∧ yX7_image.cls ≠ "java/lang/invoke/MethodHandle" ∧ yX7_image.cls ≠ "java/lang/invoke/VarHandle" ∧ (parseMethodDescriptor yX7_image.desc).map (fun d => d.parameters.length) = some 1 := by decide +kernel
set_option maxHeartbeats 4000000 in
set_option maxRecDepth 100000 in
theorem c_X7_image (l : Launch) {D : va_G} {Y : Nat → ClassId} {A : ss_A} (hAD : AD 0 A) {p0 : Int32}  {r : Int32} {σ σ' : ss_M} (hf : f_X7_image p0 σ = some (r, σ')) : Met l yX7_image wsX7_image rm_X7_image (Pc0 0 D Y A σ [.ref (A 0 6 0), .int p0]) (Qi0 0 D Y A r σ') 0 0 (FA 0 A) := by
  rw [f_X7_image] at hf
  refine Met0 (cc := cX7_image) (maxL := 2) (ret := (some .int)) (own := RX7) (by decide +kernel) rfl hAD rfl (Nat.le_of_ble_eq_true rfl) ?_
  intro p e s m args below meth c S hr hlocks hW ls hl
  obtain ⟨hx, hb, hml, hown, hts⟩ := id S
  have iX7 : ∀ q ∈ wsX70, q ∈ wsX7_image := fun q h => List.mem_cons_of_mem _ (List.mem_append_left _ (List.mem_append_left _ (List.mem_append_right _ (h))))
  have hl : lv_has ls 2 [(0, .ref (A 0 6 0)), (1, .int p0)] := hl
  refine lv_iload_n hx hb dX7_image_0 rfl (lv_at hl 1 rfl) ?_
  refine lv_iconst (v := (0 : Int32)) hx hb dX7_image_1 (by decide) ?_
  refine lv_iconst (v := (1 : Int32)) hx hb dX7_image_2 (by decide) ?_
  obtain ⟨r1, σ1, hf1, hf⟩ := ss_bd_some hf
  refine rt_i S (c_X7_isWithin l hAD  hf1) (va_cwS 3 hts gX7_image_X7_isWithin rfl rfl rfl hd_X7_isWithin ⟨(Nat.le_of_ble_eq_true rfl), (Nat.le_of_ble_eq_true rfl)⟩) hW rfl rfl hl.1 (Nat.le_of_ble_eq_true rfl) ⟨Nat.zero_le _, Nat.zero_le _⟩ dX7_image_3 (fun H locs hW => ?_)
  refine lv_if_ne (tgt := 16) hx hb dX7_image_6 (by decide) (fun q2 => ?_) (fun q2 => ?_)
  · rw [if_neg q2] at hf
    refine lv_aload_n hx hb dX7_image_16 rfl (lv_at hl 0 rfl) ?_
    refine gf_X7_images hx hb hts hown hW (kS_in (by decide)) iX7 (List.mem_of_getElem? (i := 1) rfl) dX7_image_17 ?_
    refine lv_iload_n hx hb dX7_image_20 rfl (lv_at hl 1 rfl) ?_
    obtain ⟨g3, hf⟩ := ss_if hf
    refine ra_p hx hb hW (kS_in (by decide)) g3 dX7_image_21 ?_
    refine lv_aload_n hx hb dX7_image_22 rfl (lv_at hl 0 rfl) ?_
    refine gf_X7_page hx hb hts hown hW (kS_in (by decide)) iX7 (List.mem_of_getElem? (i := 2) rfl) dX7_image_23 ?_
    obtain ⟨σ4, hf4, hf⟩ := ss_bind hf
    refine rv_v S (c_X4_copy l hAD (Nat.add_lt_add_left (gd_lt g3) 2) (by decide) hf4) (cwV 1 hts gX7_image_X4_copy rfl rfl rfl hd_X4_copy ⟨(Nat.le_of_ble_eq_true rfl), (Nat.le_of_ble_eq_true rfl)⟩) hW (kS_in (Nat.add_lt_add_left (gd_lt g3) 2)) rfl rfl rfl hl.1 (Nat.le_of_ble_eq_true rfl) ⟨Nat.zero_le _, Nat.zero_le _⟩ dX7_image_26 (fun H locs hW => ?_)
    refine lv_aload_n hx hb dX7_image_29 rfl (lv_at hl 0 rfl) ?_
    refine gf_X7_kept hx hb hts hown hW (kS_in (by decide)) iX7 (List.mem_of_getElem? (i := 3) rfl) dX7_image_30 ?_
    refine lv_iload_n hx hb dX7_image_33 rfl (lv_at hl 1 rfl) ?_
    refine lv_iconst (v := (1 : Int32)) hx hb dX7_image_34 (by decide) ?_
    obtain ⟨g5, hf⟩ := ss_if hf
    refine rs_z hx hb hW (kS_in (by decide)) g5 (by decide) dX7_image_35 (fun H locs hW => ?_)
    refine lv_iconst (v := (1 : Int32)) hx hb dX7_image_36 (by decide) ?_
    exact re_i hx hb hr hlocks hW (Option.some.inj hf) dX7_image_37
  · rw [if_pos q2] at hf
    refine lv_aload_n hx hb dX7_image_9 rfl (lv_at hl 0 rfl) ?_
    refine lv_bipush (v := (-2 : Int32)) hx hb dX7_image_10 (by decide) ?_
    obtain ⟨r6, σ6, hf6, hf⟩ := ss_bd_some hf
    refine rv_i S (c_X7_bad l hAD  hf6) (cwV 1 hts gX7_image_X7_bad rfl rfl rfl hd_X7_bad ⟨(Nat.le_of_ble_eq_true rfl), (Nat.le_of_ble_eq_true rfl)⟩) hW (kS_in (by decide)) rfl rfl rfl hl.1 (Nat.le_of_ble_eq_true rfl) ⟨Nat.zero_le _, Nat.zero_le _⟩ dX7_image_12 (fun H locs hW => ?_)
    exact re_i hx hb hr hlocks hW (Option.some.inj hf) dX7_image_15
def f_X7_from (p0 : Int32) (σ : ss_M) : Option (Int32 × ss_M) :=
  ss_bd (f_X7_isWithin p0 (0 : Int32) (1 : Int32) σ) (fun r1 σ1 => if r1 = (0 : Int32) then (ss_bd (f_X7_bad (-2 : Int32) σ1) (fun r8 σ8 => some (r8, σ8))) else (if gd p0 2 = true then (if (sA σ1 101 0 (p0).toNatClampNeg) = (0 : Int32) then (ss_bd (f_X7_no (-3 : Int32) σ1) (fun r7 σ7 => some (r7, σ7))) else (if gd p0 2 = true then (Option.bind (f_X4_copy 0 (2 + (p0).toNatClampNeg) σ1) (fun σ6 => some ((1 : Int32), σ6))) else none)) else none))
def rm_X7_from : Room := { frames := 6, cells := 0, slots := 0, locals := 300 }
theorem hd_X7_from : yX7_from.cls = RX7 ∧ yX7_from.cls ≠ "java/lang/invoke/MethodHandle" ∧ yX7_from.cls ≠ "java/lang/invoke/VarHandle" ∧ (parseMethodDescriptor yX7_from.desc).map (fun d => d.parameters.length) = some 1 := by decide +kernel
set_option maxHeartbeats 4000000 in
set_option maxRecDepth 100000 in
theorem c_X7_from (l : Launch) {D : va_G} {Y : Nat → ClassId} {A : ss_A} (hAD : AD 0 A) {p0 : Int32}  {r : Int32} {σ σ' : ss_M} (hf : f_X7_from p0 σ = some (r, σ')) : Met l yX7_from wsX7_from rm_X7_from (Pc0 0 D Y A σ [.ref (A 0 6 0), .int p0]) (Qi0 0 D Y A r σ') 0 0 (FA 0 A) := by
  rw [f_X7_from] at hf
  refine Met0 (cc := cX7_from) (maxL := 2) (ret := (some .int)) (own := RX7) (by decide +kernel) rfl hAD rfl (Nat.le_of_ble_eq_true rfl) ?_
  intro p e s m args below meth c S hr hlocks hW ls hl
  obtain ⟨hx, hb, hml, hown, hts⟩ := id S
  have iX7 : ∀ q ∈ wsX70, q ∈ wsX7_from := fun q h => List.mem_cons_of_mem _ (List.mem_append_left _ (List.mem_append_left _ (List.mem_append_right _ (h))))
  have hl : lv_has ls 2 [(0, .ref (A 0 6 0)), (1, .int p0)] := hl
  refine lv_iload_n hx hb dX7_from_0 rfl (lv_at hl 1 rfl) ?_
  refine lv_iconst (v := (0 : Int32)) hx hb dX7_from_1 (by decide) ?_
  refine lv_iconst (v := (1 : Int32)) hx hb dX7_from_2 (by decide) ?_
  obtain ⟨r1, σ1, hf1, hf⟩ := ss_bd_some hf
  refine rt_i S (c_X7_isWithin l hAD  hf1) (va_cwS 3 hts gX7_from_X7_isWithin rfl rfl rfl hd_X7_isWithin ⟨(Nat.le_of_ble_eq_true rfl), (Nat.le_of_ble_eq_true rfl)⟩) hW rfl rfl hl.1 (Nat.le_of_ble_eq_true rfl) ⟨Nat.zero_le _, Nat.zero_le _⟩ dX7_from_3 (fun H locs hW => ?_)
  refine lv_if_ne (tgt := 16) hx hb dX7_from_6 (by decide) (fun q2 => ?_) (fun q2 => ?_)
  · rw [if_neg q2] at hf
    refine lv_aload_n hx hb dX7_from_16 rfl (lv_at hl 0 rfl) ?_
    refine gf_X7_kept hx hb hts hown hW (kS_in (by decide)) iX7 (List.mem_of_getElem? (i := 1) rfl) dX7_from_17 ?_
    refine lv_iload_n hx hb dX7_from_20 rfl (lv_at hl 1 rfl) ?_
    obtain ⟨g3, hf⟩ := ss_if hf
    refine ra_z hx hb hW (kS_in (by decide)) g3 dX7_from_21 ?_
    refine lv_if_ne (tgt := 32) hx hb dX7_from_22 (by decide) (fun q4 => ?_) (fun q4 => ?_)
    · rw [if_neg q4] at hf
      refine lv_aload_n hx hb dX7_from_32 rfl (lv_at hl 0 rfl) ?_
      refine gf_X7_page hx hb hts hown hW (kS_in (by decide)) iX7 (List.mem_of_getElem? (i := 2) rfl) dX7_from_33 ?_
      refine lv_aload_n hx hb dX7_from_36 rfl (lv_at hl 0 rfl) ?_
      refine gf_X7_images hx hb hts hown hW (kS_in (by decide)) iX7 (List.mem_of_getElem? (i := 3) rfl) dX7_from_37 ?_
      refine lv_iload_n hx hb dX7_from_40 rfl (lv_at hl 1 rfl) ?_
      obtain ⟨g5, hf⟩ := ss_if hf
      refine ra_p hx hb hW (kS_in (by decide)) g5 dX7_from_41 ?_
      obtain ⟨σ6, hf6, hf⟩ := ss_bind hf
      refine rv_v S (c_X4_copy l hAD (by decide) (Nat.add_lt_add_left (gd_lt g5) 2) hf6) (cwV 1 hts gX7_from_X4_copy rfl rfl rfl hd_X4_copy ⟨(Nat.le_of_ble_eq_true rfl), (Nat.le_of_ble_eq_true rfl)⟩) hW (kS_in (by decide)) rfl rfl rfl hl.1 (Nat.le_of_ble_eq_true rfl) ⟨Nat.zero_le _, Nat.zero_le _⟩ dX7_from_42 (fun H locs hW => ?_)
      refine lv_iconst (v := (1 : Int32)) hx hb dX7_from_45 (by decide) ?_
      exact re_i hx hb hr hlocks hW (Option.some.inj hf) dX7_from_46
    · rw [if_pos q4] at hf
      refine lv_aload_n hx hb dX7_from_25 rfl (lv_at hl 0 rfl) ?_
      refine lv_bipush (v := (-3 : Int32)) hx hb dX7_from_26 (by decide) ?_
      obtain ⟨r7, σ7, hf7, hf⟩ := ss_bd_some hf
      refine rv_i S (c_X7_no l hAD  hf7) (cwV 1 hts gX7_from_X7_no rfl rfl rfl hd_X7_no ⟨(Nat.le_of_ble_eq_true rfl), (Nat.le_of_ble_eq_true rfl)⟩) hW (kS_in (by decide)) rfl rfl rfl hl.1 (Nat.le_of_ble_eq_true rfl) ⟨Nat.zero_le _, Nat.zero_le _⟩ dX7_from_28 (fun H locs hW => ?_)
      exact re_i hx hb hr hlocks hW (Option.some.inj hf) dX7_from_31
  · rw [if_pos q2] at hf
    refine lv_aload_n hx hb dX7_from_9 rfl (lv_at hl 0 rfl) ?_
    refine lv_bipush (v := (-2 : Int32)) hx hb dX7_from_10 (by decide) ?_
    obtain ⟨r8, σ8, hf8, hf⟩ := ss_bd_some hf
    refine rv_i S (c_X7_bad l hAD  hf8) (cwV 1 hts gX7_from_X7_bad rfl rfl rfl hd_X7_bad ⟨(Nat.le_of_ble_eq_true rfl), (Nat.le_of_ble_eq_true rfl)⟩) hW (kS_in (by decide)) rfl rfl rfl hl.1 (Nat.le_of_ble_eq_true rfl) ⟨Nat.zero_le _, Nat.zero_le _⟩ dX7_from_12 (fun H locs hW => ?_)
    exact re_i hx hb hr hlocks hW (Option.some.inj hf) dX7_from_15
def f_X7_status (p0 : Int32) (σ : ss_M) : Option (Int32 × ss_M) :=
  if p0 = (0 : Int32) then (some ((sG σ 14 0), σ)) else if p0 = (1 : Int32) then (some ((sG σ 15 0), σ)) else if p0 = (2 : Int32) then (some ((sG σ 16 0), σ)) else (ss_bd (f_X7_bad (-1 : Int32) σ) (fun r4 σ4 => some (r4, σ4)))
def rm_X7_status : Room := { frames := 2, cells := 0, slots := 0, locals := 100 }
theorem hd_X7_status : yX7_status.cls = RX7 ∧ yX7_status.cls ≠ "java/lang/invoke/MethodHandle" ∧ yX7_status.cls ≠ "java/lang/invoke/VarHandle" ∧ (parseMethodDescriptor yX7_status.desc).map (fun d => d.parameters.length) = some 1 := by decide +kernel
set_option maxHeartbeats 4000000 in
set_option maxRecDepth 100000 in
theorem c_X7_status (l : Launch) {D : va_G} {Y : Nat → ClassId} {A : ss_A} (hAD : AD 0 A) {p0 : Int32}  {r : Int32} {σ σ' : ss_M} (hf : f_X7_status p0 σ = some (r, σ')) : Met l yX7_status wsX7_status rm_X7_status (Pc0 0 D Y A σ [.ref (A 0 6 0), .int p0]) (Qi0 0 D Y A r σ') 0 0 (FA 0 A) := by
  rw [f_X7_status] at hf
  refine Met0 (cc := cX7_status) (maxL := 2) (ret := (some .int)) (own := RX7) (by decide +kernel) rfl hAD rfl (Nat.le_of_ble_eq_true rfl) ?_
  intro p e s m args below meth c S hr hlocks hW ls hl
  obtain ⟨hx, hb, hml, hown, hts⟩ := id S
  have iX7 : ∀ q ∈ wsX70, q ∈ wsX7_status := fun q h => List.mem_cons_of_mem _ (List.mem_append_right _ (h))
  have hl : lv_has ls 2 [(0, .ref (A 0 6 0)), (1, .int p0)] := hl
  refine lv_iload_n hx hb dX7_status_0 rfl (lv_at hl 1 rfl) ?_
  by_cases q1 : p0 = (0 : Int32)
  · rw [if_pos q1] at hf
    refine lv_tableIn (off := 27) (tgt := 28) hx hb dX7_status_1 (by rw [q1]; decide) (by rw [q1]; decide) (by rw [q1]; decide) (by decide) ?_
    refine lv_aload_n hx hb dX7_status_28 rfl (lv_at hl 0 rfl) ?_
    refine gf_X7_bads hx hb hts hown hW (kS_in (by decide)) iX7 (List.mem_of_getElem? (i := 1) rfl) dX7_status_29 ?_
    exact re_i hx hb hr hlocks hW (Option.some.inj hf) dX7_status_32
  · rw [if_neg q1] at hf
    by_cases q2 : p0 = (1 : Int32)
    · rw [if_pos q2] at hf
      refine lv_tableIn (off := 32) (tgt := 33) hx hb dX7_status_1 (by rw [q2]; decide) (by rw [q2]; decide) (by rw [q2]; decide) (by decide) ?_
      refine lv_aload_n hx hb dX7_status_33 rfl (lv_at hl 0 rfl) ?_
      refine gf_X7_nos hx hb hts hown hW (kS_in (by decide)) iX7 (List.mem_of_getElem? (i := 2) rfl) dX7_status_34 ?_
      exact re_i hx hb hr hlocks hW (Option.some.inj hf) dX7_status_37
    · rw [if_neg q2] at hf
      by_cases q3 : p0 = (2 : Int32)
      · rw [if_pos q3] at hf
        refine lv_tableIn (off := 37) (tgt := 38) hx hb dX7_status_1 (by rw [q3]; decide) (by rw [q3]; decide) (by rw [q3]; decide) (by decide) ?_
        refine lv_aload_n hx hb dX7_status_38 rfl (lv_at hl 0 rfl) ?_
        refine gf_X7_fulls hx hb hts hown hW (kS_in (by decide)) iX7 (List.mem_of_getElem? (i := 3) rfl) dX7_status_39 ?_
        exact re_i hx hb hr hlocks hW (Option.some.inj hf) dX7_status_42
      · rw [if_neg q3] at hf
        refine lv_tableOut (tgt := 43) hx hb dX7_status_1 (by have z := And.intro (lv_neT q1 (a := 0) rfl) (And.intro (lv_neT q2 (a := 1) rfl) (lv_neT q3 (a := 2) rfl)); omega) (by decide) ?_
        refine lv_aload_n hx hb dX7_status_43 rfl (lv_at hl 0 rfl) ?_
        refine lv_iconst (v := (-1 : Int32)) hx hb dX7_status_44 (by decide) ?_
        obtain ⟨r4, σ4, hf4, hf⟩ := ss_bd_some hf
        refine rv_i S (c_X7_bad l hAD  hf4) (cwV 1 hts gX7_status_X7_bad rfl rfl rfl hd_X7_bad ⟨(Nat.le_of_ble_eq_true rfl), (Nat.le_of_ble_eq_true rfl)⟩) hW (kS_in (by decide)) rfl rfl rfl hl.1 (Nat.le_of_ble_eq_true rfl) ⟨Nat.zero_le _, Nat.zero_le _⟩ dX7_status_45 (fun H locs hW => ?_)
        exact re_i hx hb hr hlocks hW (Option.some.inj hf) dX7_status_48
def f_X7_countOf (p0 : Int32) (σ : ss_M) : Option (Int32 × ss_M) :=
  if p0 = (0 : Int32) then (some ((sG σ 5 0), σ)) else if p0 = (1 : Int32) then (ss_bd (f_X4_howManyMarks 0 σ) (fun r3 σ3 => some (r3, σ3))) else if p0 = (2 : Int32) then (some ((sG σ 3 0), σ)) else if p0 = (3 : Int32) then (some ((sG σ 4 0), σ)) else if p0 = (4 : Int32) then (some ((sG σ 0 0), σ)) else if p0 = (5 : Int32) then (some ((sG σ 1 0), σ)) else if p0 = (6 : Int32) then (some ((sG σ 6 0), σ)) else if p0 = (7 : Int32) then (some ((sG σ 7 0), σ)) else (some ((sG σ 8 0), σ))
def rm_X7_countOf : Room := { frames := 2, cells := 0, slots := 0, locals := 100 }
theorem hd_X7_countOf : yX7_countOf.cls = RX7 ∧ yX7_countOf.cls ≠ "java/lang/invoke/MethodHandle" ∧ yX7_countOf.cls ≠ "java/lang/invoke/VarHandle" ∧ (parseMethodDescriptor yX7_countOf.desc).map (fun d => d.parameters.length) = some 1 := by decide +kernel
set_option maxHeartbeats 4000000 in
set_option maxRecDepth 100000 in
theorem c_X7_countOf (l : Launch) {D : va_G} {Y : Nat → ClassId} {A : ss_A} (hAD : AD 0 A) {p0 : Int32}  {r : Int32} {σ σ' : ss_M} (hf : f_X7_countOf p0 σ = some (r, σ')) : Met l yX7_countOf wsX7_countOf rm_X7_countOf (Pc0 0 D Y A σ [.ref (A 0 6 0), .int p0]) (Qi0 0 D Y A r σ') 0 0 (FA 0 A) := by
  rw [f_X7_countOf] at hf
  refine Met0 (cc := cX7_countOf) (maxL := 2) (ret := (some .int)) (own := RX7) (by decide +kernel) rfl hAD rfl (Nat.le_of_ble_eq_true rfl) ?_
  intro p e s m args below meth c S hr hlocks hW ls hl
  obtain ⟨hx, hb, hml, hown, hts⟩ := id S
  have iX7 : ∀ q ∈ wsX70, q ∈ wsX7_countOf := fun q h => List.mem_cons_of_mem _ (List.mem_append_left _ (List.mem_append_left _ (List.mem_append_left _ (List.mem_append_right _ (h)))))
  have iX4 : ∀ q ∈ wsX40, q ∈ wsX7_countOf := fun q h => List.mem_cons_of_mem _ (List.mem_append_left _ (List.mem_append_left _ (List.mem_append_right _ (h))))
  have iX2 : ∀ q ∈ wsX20, q ∈ wsX7_countOf := fun q h => List.mem_cons_of_mem _ (List.mem_append_left _ (List.mem_append_right _ (h)))
  have iX6 : ∀ q ∈ wsX60, q ∈ wsX7_countOf := fun q h => List.mem_cons_of_mem _ (List.mem_append_right _ (h))
  have hl : lv_has ls 2 [(0, .ref (A 0 6 0)), (1, .int p0)] := hl
  refine lv_iload_n hx hb dX7_countOf_0 rfl (lv_at hl 1 rfl) ?_
  by_cases q1 : p0 = (0 : Int32)
  · rw [if_pos q1] at hf
    refine lv_tableIn (off := 47) (tgt := 48) hx hb dX7_countOf_1 (by rw [q1]; decide) (by rw [q1]; decide) (by rw [q1]; decide) (by decide) ?_
    refine lv_aload_n hx hb dX7_countOf_48 rfl (lv_at hl 0 rfl) ?_
    refine gf_X7_page hx hb hts hown hW (kS_in (by decide)) iX7 (List.mem_of_getElem? (i := 1) rfl) dX7_countOf_49 ?_
    refine gf_X4_words hx hb hts hown hW (kS_in (by decide)) iX4 (List.mem_of_getElem? (i := 2) rfl) dX7_countOf_52 ?_
    exact re_i hx hb hr hlocks hW (Option.some.inj hf) dX7_countOf_55
  · rw [if_neg q1] at hf
    by_cases q2 : p0 = (1 : Int32)
    · rw [if_pos q2] at hf
      refine lv_tableIn (off := 55) (tgt := 56) hx hb dX7_countOf_1 (by rw [q2]; decide) (by rw [q2]; decide) (by rw [q2]; decide) (by decide) ?_
      refine lv_aload_n hx hb dX7_countOf_56 rfl (lv_at hl 0 rfl) ?_
      refine gf_X7_page hx hb hts hown hW (kS_in (by decide)) iX7 (List.mem_of_getElem? (i := 1) rfl) dX7_countOf_57 ?_
      obtain ⟨r3, σ3, hf3, hf⟩ := ss_bd_some hf
      refine rv_i S (c_X4_howManyMarks l hAD (by decide) hf3) (cwV 0 hts gX7_countOf_X4_howManyMarks rfl rfl rfl hd_X4_howManyMarks ⟨(Nat.le_of_ble_eq_true rfl), (Nat.le_of_ble_eq_true rfl)⟩) hW (kS_in (by decide)) rfl rfl rfl hl.1 (Nat.le_of_ble_eq_true rfl) ⟨Nat.zero_le _, Nat.zero_le _⟩ dX7_countOf_60 (fun H locs hW => ?_)
      exact re_i hx hb hr hlocks hW (Option.some.inj hf) dX7_countOf_63
    · rw [if_neg q2] at hf
      by_cases q4 : p0 = (2 : Int32)
      · rw [if_pos q4] at hf
        refine lv_tableIn (off := 63) (tgt := 64) hx hb dX7_countOf_1 (by rw [q4]; decide) (by rw [q4]; decide) (by rw [q4]; decide) (by decide) ?_
        refine lv_aload_n hx hb dX7_countOf_64 rfl (lv_at hl 0 rfl) ?_
        refine gf_X7_page hx hb hts hown hW (kS_in (by decide)) iX7 (List.mem_of_getElem? (i := 1) rfl) dX7_countOf_65 ?_
        refine gf_X4_breath hx hb hts hown hW (kS_in (by decide)) iX4 (List.mem_of_getElem? (i := 3) rfl) dX7_countOf_68 ?_
        exact re_i hx hb hr hlocks hW (Option.some.inj hf) dX7_countOf_71
      · rw [if_neg q4] at hf
        by_cases q5 : p0 = (3 : Int32)
        · rw [if_pos q5] at hf
          refine lv_tableIn (off := 71) (tgt := 72) hx hb dX7_countOf_1 (by rw [q5]; decide) (by rw [q5]; decide) (by rw [q5]; decide) (by decide) ?_
          refine lv_aload_n hx hb dX7_countOf_72 rfl (lv_at hl 0 rfl) ?_
          refine gf_X7_page hx hb hts hown hW (kS_in (by decide)) iX7 (List.mem_of_getElem? (i := 1) rfl) dX7_countOf_73 ?_
          refine gf_X4_price hx hb hts hown hW (kS_in (by decide)) iX4 (List.mem_of_getElem? (i := 4) rfl) dX7_countOf_76 ?_
          exact re_i hx hb hr hlocks hW (Option.some.inj hf) dX7_countOf_79
        · rw [if_neg q5] at hf
          by_cases q6 : p0 = (4 : Int32)
          · rw [if_pos q6] at hf
            refine lv_tableIn (off := 79) (tgt := 80) hx hb dX7_countOf_1 (by rw [q6]; decide) (by rw [q6]; decide) (by rw [q6]; decide) (by decide) ?_
            refine lv_aload_n hx hb dX7_countOf_80 rfl (lv_at hl 0 rfl) ?_
            refine gf_X7_page hx hb hts hown hW (kS_in (by decide)) iX7 (List.mem_of_getElem? (i := 1) rfl) dX7_countOf_81 ?_
            refine gf_X4_marks hx hb hts hown hW (kS_in (by decide)) iX4 (List.mem_of_getElem? (i := 5) rfl) dX7_countOf_84 ?_
            refine gf_X2_purse hx hb hts hown hW (kS_in (by decide)) iX2 (List.mem_of_getElem? (i := 6) rfl) dX7_countOf_87 ?_
            exact re_i hx hb hr hlocks hW (Option.some.inj hf) dX7_countOf_90
          · rw [if_neg q6] at hf
            by_cases q7 : p0 = (5 : Int32)
            · rw [if_pos q7] at hf
              refine lv_tableIn (off := 90) (tgt := 91) hx hb dX7_countOf_1 (by rw [q7]; decide) (by rw [q7]; decide) (by rw [q7]; decide) (by decide) ?_
              refine lv_aload_n hx hb dX7_countOf_91 rfl (lv_at hl 0 rfl) ?_
              refine gf_X7_page hx hb hts hown hW (kS_in (by decide)) iX7 (List.mem_of_getElem? (i := 1) rfl) dX7_countOf_92 ?_
              refine gf_X4_marks hx hb hts hown hW (kS_in (by decide)) iX4 (List.mem_of_getElem? (i := 5) rfl) dX7_countOf_95 ?_
              refine gf_X2_week hx hb hts hown hW (kS_in (by decide)) iX2 (List.mem_of_getElem? (i := 7) rfl) dX7_countOf_98 ?_
              exact re_i hx hb hr hlocks hW (Option.some.inj hf) dX7_countOf_101
            · rw [if_neg q7] at hf
              by_cases q8 : p0 = (6 : Int32)
              · rw [if_pos q8] at hf
                refine lv_tableIn (off := 101) (tgt := 102) hx hb dX7_countOf_1 (by rw [q8]; decide) (by rw [q8]; decide) (by rw [q8]; decide) (by decide) ?_
                refine lv_aload_n hx hb dX7_countOf_102 rfl (lv_at hl 0 rfl) ?_
                refine gf_X7_page hx hb hts hown hW (kS_in (by decide)) iX7 (List.mem_of_getElem? (i := 1) rfl) dX7_countOf_103 ?_
                refine gf_X4_heards hx hb hts hown hW (kS_in (by decide)) iX4 (List.mem_of_getElem? (i := 8) rfl) dX7_countOf_106 ?_
                exact re_i hx hb hr hlocks hW (Option.some.inj hf) dX7_countOf_109
              · rw [if_neg q8] at hf
                by_cases q9 : p0 = (7 : Int32)
                · rw [if_pos q9] at hf
                  refine lv_tableIn (off := 109) (tgt := 110) hx hb dX7_countOf_1 (by rw [q9]; decide) (by rw [q9]; decide) (by rw [q9]; decide) (by decide) ?_
                  refine lv_aload_n hx hb dX7_countOf_110 rfl (lv_at hl 0 rfl) ?_
                  refine gf_X7_page hx hb hts hown hW (kS_in (by decide)) iX7 (List.mem_of_getElem? (i := 1) rfl) dX7_countOf_111 ?_
                  refine gf_X4_pasts hx hb hts hown hW (kS_in (by decide)) iX4 (List.mem_of_getElem? (i := 9) rfl) dX7_countOf_114 ?_
                  exact re_i hx hb hr hlocks hW (Option.some.inj hf) dX7_countOf_117
                · rw [if_neg q9] at hf
                  refine lv_tableOut (tgt := 118) hx hb dX7_countOf_1 (by have z := And.intro (lv_neT q1 (a := 0) rfl) (And.intro (lv_neT q2 (a := 1) rfl) (And.intro (lv_neT q4 (a := 2) rfl) (And.intro (lv_neT q5 (a := 3) rfl) (And.intro (lv_neT q6 (a := 4) rfl) (And.intro (lv_neT q7 (a := 5) rfl) (And.intro (lv_neT q8 (a := 6) rfl) (lv_neT q9 (a := 7) rfl))))))); omega) (by decide) ?_
                  refine lv_aload_n hx hb dX7_countOf_118 rfl (lv_at hl 0 rfl) ?_
                  refine gf_X7_text hx hb hts hown hW (kS_in (by decide)) iX7 (List.mem_of_getElem? (i := 10) rfl) dX7_countOf_119 ?_
                  refine gf_X6_size hx hb hts hown hW (kS_in (by decide)) iX6 (List.mem_of_getElem? (i := 11) rfl) dX7_countOf_122 ?_
                  exact re_i hx hb hr hlocks hW (Option.some.inj hf) dX7_countOf_125
def f_X7_count (p0 : Int32) (σ : ss_M) : Option (Int32 × ss_M) :=
  ss_bd (f_X7_isWithin p0 (0 : Int32) (8 : Int32) σ) (fun r1 σ1 => if r1 = (0 : Int32) then (ss_bd (f_X7_bad (-2 : Int32) σ1) (fun r3 σ3 => some (r3, σ3))) else (ss_bd (f_X7_countOf p0 σ1) (fun r4 σ4 => some (r4, σ4))))
def rm_X7_count : Room := { frames := 4, cells := 0, slots := 0, locals := 200 }
theorem hd_X7_count : yX7_count.cls = RX7 ∧ yX7_count.cls ≠ "java/lang/invoke/MethodHandle" ∧ yX7_count.cls ≠ "java/lang/invoke/VarHandle" ∧ (parseMethodDescriptor yX7_count.desc).map (fun d => d.parameters.length) = some 1 := by decide +kernel
set_option maxHeartbeats 4000000 in
set_option maxRecDepth 100000 in
theorem c_X7_count (l : Launch) {D : va_G} {Y : Nat → ClassId} {A : ss_A} (hAD : AD 0 A) {p0 : Int32}  {r : Int32} {σ σ' : ss_M} (hf : f_X7_count p0 σ = some (r, σ')) : Met l yX7_count wsX7_count rm_X7_count (Pc0 0 D Y A σ [.ref (A 0 6 0), .int p0]) (Qi0 0 D Y A r σ') 0 0 (FA 0 A) := by
  rw [f_X7_count] at hf
  refine Met0 (cc := cX7_count) (maxL := 2) (ret := (some .int)) (own := RX7) (by decide +kernel) rfl hAD rfl (Nat.le_of_ble_eq_true rfl) ?_
  intro p e s m args below meth c S hr hlocks hW ls hl
  obtain ⟨hx, hb, hml, hown, hts⟩ := id S
  have hl : lv_has ls 2 [(0, .ref (A 0 6 0)), (1, .int p0)] := hl
  refine lv_iload_n hx hb dX7_count_0 rfl (lv_at hl 1 rfl) ?_
  refine lv_iconst (v := (0 : Int32)) hx hb dX7_count_1 (by decide) ?_
  refine lv_bipush (v := (8 : Int32)) hx hb dX7_count_2 (by decide) ?_
  obtain ⟨r1, σ1, hf1, hf⟩ := ss_bd_some hf
  refine rt_i S (c_X7_isWithin l hAD  hf1) (va_cwS 3 hts gX7_count_X7_isWithin rfl rfl rfl hd_X7_isWithin ⟨(Nat.le_of_ble_eq_true rfl), (Nat.le_of_ble_eq_true rfl)⟩) hW rfl rfl hl.1 (Nat.le_of_ble_eq_true rfl) ⟨Nat.zero_le _, Nat.zero_le _⟩ dX7_count_4 (fun H locs hW => ?_)
  refine lv_if_eq (tgt := 18) hx hb dX7_count_7 (by decide) (fun q2 => ?_) (fun q2 => ?_)
  · rw [if_pos q2] at hf
    refine lv_aload_n hx hb dX7_count_18 rfl (lv_at hl 0 rfl) ?_
    refine lv_bipush (v := (-2 : Int32)) hx hb dX7_count_19 (by decide) ?_
    obtain ⟨r3, σ3, hf3, hf⟩ := ss_bd_some hf
    refine rv_i S (c_X7_bad l hAD  hf3) (cwV 1 hts gX7_count_X7_bad rfl rfl rfl hd_X7_bad ⟨(Nat.le_of_ble_eq_true rfl), (Nat.le_of_ble_eq_true rfl)⟩) hW (kS_in (by decide)) rfl rfl rfl hl.1 (Nat.le_of_ble_eq_true rfl) ⟨Nat.zero_le _, Nat.zero_le _⟩ dX7_count_21 (fun H locs hW => ?_)
    exact re_i hx hb hr hlocks hW (Option.some.inj hf) dX7_count_24
  · rw [if_neg q2] at hf
    refine lv_aload_n hx hb dX7_count_10 rfl (lv_at hl 0 rfl) ?_
    refine lv_iload_n hx hb dX7_count_11 rfl (lv_at hl 1 rfl) ?_
    obtain ⟨r4, σ4, hf4, hf⟩ := ss_bd_some hf
    refine rv_i S (c_X7_countOf l hAD  hf4) (cwV 1 hts gX7_count_X7_countOf rfl rfl rfl hd_X7_countOf ⟨(Nat.le_of_ble_eq_true rfl), (Nat.le_of_ble_eq_true rfl)⟩) hW (kS_in (by decide)) rfl rfl rfl hl.1 (Nat.le_of_ble_eq_true rfl) ⟨Nat.zero_le _, Nat.zero_le _⟩ dX7_count_12 (fun H locs hW => ?_)
    refine lv_goto (tgt := 24) hx hb dX7_count_15 (by decide) ?_
    exact re_i hx hb hr hlocks hW (Option.some.inj hf) dX7_count_24
def f_X7_digest_j143 (x143_1 : Int64) (σ143_ : ss_M) : Option (Int64 × ss_M) :=
  some ((((31 : Int64) * (((31 : Int64) * x143_1) + (sL σ143_ 0))) + (sL σ143_ 1)), σ143_)
def f_X7_digest_L109 (k109_143 : Int64 → ss_M → Option (Int64 × ss_M)) : Nat → Int64 → Int32 → ss_M → Option (Int64 × ss_M)
  | 0, _, _, _ => none
  | n109 + 1, x109_1, x109_3, σ109_ => if (sG σ109_ 6 0) ≤ x109_3 then (k109_143 x109_1 σ109_) else (if gd x109_3 6 = true then ((f_X7_digest_L109 k109_143 n109) (((31 : Int64) * x109_1) + ((sA σ109_ 5 0 (x109_3).toNatClampNeg)).toInt64) (x109_3 + (1 : Int32)) σ109_) else none)
def f_X7_digest_j107 (x107_1 : Int64) (σ107_ : ss_M) : Option (Int64 × ss_M) :=
  f_X7_digest_L109 (f_X7_digest_j143) FU x107_1 (0 : Int32) σ107_
def f_X7_digest_L33 (k33_107 : Int64 → ss_M → Option (Int64 × ss_M)) : Nat → Int64 → Int32 → ss_M → Option (Int64 × ss_M)
  | 0, _, _, _ => none
  | n33 + 1, x33_1, x33_3, σ33_ => if (sG σ33_ 5 0) ≤ x33_3 then (k33_107 x33_1 σ33_) else (if gd x33_3 12 = true then (if gd x33_3 12 = true then (if gd x33_3 12 = true then ((f_X7_digest_L33 k33_107 n33) (((31 : Int64) * (((31 : Int64) * (((31 : Int64) * x33_1) + ((sA σ33_ 4 0 (x33_3).toNatClampNeg)).toInt64)) + ((sA σ33_ 0 0 (x33_3).toNatClampNeg)).toInt64)) + ((sA σ33_ 1 0 (x33_3).toNatClampNeg)).toInt64) (x33_3 + (1 : Int32)) σ33_) else none) else none) else none)
def f_X7_digest_j31 (x31_1 : Int64) (σ31_ : ss_M) : Option (Int64 × ss_M) :=
  f_X7_digest_L33 (f_X7_digest_j107) FU x31_1 (0 : Int32) σ31_
def f_X7_digest_L6 (k6_31 : Int64 → ss_M → Option (Int64 × ss_M)) : Nat → Int64 → Int32 → ss_M → Option (Int64 × ss_M)
  | 0, _, _, _ => none
  | n6 + 1, x6_1, x6_3, σ6_ => if (9 : Int32) ≤ x6_3 then (k6_31 x6_1 σ6_) else (ss_bd (f_X7_countOf x6_3 σ6_) (fun r8 σ8 => (f_X7_digest_L6 k6_31 n6) (((31 : Int64) * x6_1) + (r8).toInt64) (x6_3 + (1 : Int32)) σ8))
def f_X7_digest (σ : ss_M) : Option (Int64 × ss_M) :=
  f_X7_digest_L6 (f_X7_digest_j31) FU (1063 : Int64) (0 : Int32) σ
def rm_X7_digest : Room := { frames := 4, cells := 0, slots := 0, locals := 200 }
theorem hd_X7_digest : yX7_digest.cls = RX7 ∧ yX7_digest.cls ≠ "java/lang/invoke/MethodHandle" ∧ yX7_digest.cls ≠ "java/lang/invoke/VarHandle" ∧ (parseMethodDescriptor yX7_digest.desc).map (fun d => d.parameters.length) = some 0 := by decide +kernel
set_option maxHeartbeats 4000000 in
set_option maxRecDepth 100000 in
theorem c_X7_digest (l : Launch) {D : va_G} {Y : Nat → ClassId} {A : ss_A} (hAD : AD 0 A)   {r : Int64} {σ σ' : ss_M} (hf : f_X7_digest σ = some (r, σ')) : Met l yX7_digest wsX7_digest rm_X7_digest (Pc0 0 D Y A σ [.ref (A 0 6 0)]) (Ql0 0 D Y A r σ') 0 0 (FA 0 A) := by
  rw [f_X7_digest] at hf
  refine Met0 (cc := cX7_digest) (maxL := 4) (ret := (some .long)) (own := RX7) (by decide +kernel) rfl hAD rfl (Nat.le_of_ble_eq_true rfl) ?_
  intro p e s m args below meth c S hr hlocks hW ls hl
  obtain ⟨hx, hb, hml, hown, hts⟩ := id S
  have iX7 : ∀ q ∈ wsX70, q ∈ wsX7_digest := fun q h => List.mem_cons_of_mem _ (List.mem_append_left _ (List.mem_append_left _ (List.mem_append_left _ (List.mem_append_left _ (List.mem_append_right _ (h))))))
  have iX0 : ∀ q ∈ wsX00, q ∈ wsX7_digest := fun q h => List.mem_cons_of_mem _ (List.mem_append_left _ (List.mem_append_right _ (h)))
  have iX4 : ∀ q ∈ wsX40, q ∈ wsX7_digest := fun q h => List.mem_cons_of_mem _ (List.mem_append_left _ (List.mem_append_left _ (List.mem_append_left _ (List.mem_append_right _ (h)))))
  have iX2 : ∀ q ∈ wsX20, q ∈ wsX7_digest := fun q h => List.mem_cons_of_mem _ (List.mem_append_left _ (List.mem_append_left _ (List.mem_append_right _ (h))))
  have hl : lv_has ls 4 [(0, .ref (A 0 6 0))] := hl
  refine lv_ldc2 hx hb hown (hts _ (List.mem_of_getElem? (i := 1) rfl)) dX7_digest_0 ?_
  refine lv_lstore_n (lv' := [(1, .long (1063 : Int64)), (0, .ref (A 0 6 0))]) hx hb dX7_digest_3 rfl hl (by decide) rfl (fun ls hl => ?_)
  refine lv_iconst (v := (0 : Int32)) hx hb dX7_digest_4 (by decide) ?_
  refine lv_istore_n (lv' := [(3, .int (0 : Int32)), (1, .long (1063 : Int64)), (0, .ref (A 0 6 0))]) hx hb dX7_digest_5 rfl hl (by decide) rfl (fun ls hl => ?_)
  have J31 : ∀ (x31_1 : Int64) (σ31_ : ss_M) (H : Heap) (locs : List Loc) (ls : Array Slot), sW 0 D Y A σ31_ s s.heap H locs → lv_has ls 4 [(0, .ref (A 0 6 0)), (1, .long x31_1)] → f_X7_digest_j31 x31_1 σ31_ = some (r, σ') → W p l e rm_X7_digest s m args below meth c H locs 0 0 (MQ below (Ql0 0 D Y A r σ') args s 0 0 (FA 0 A)) (F0 m 31 ls []) := by
    intro x31_1 σ31_ H locs ls hW hl hf
    rw [f_X7_digest_j31] at hf
    refine lv_iconst (v := (0 : Int32)) hx hb dX7_digest_31 (by decide) ?_
    refine lv_istore_n (lv' := [(3, .int (0 : Int32)), (0, .ref (A 0 6 0)), (1, .long x31_1)]) hx hb dX7_digest_32 rfl hl (by decide) rfl (fun ls hl => ?_)
    have J107 : ∀ (x107_1 : Int64) (σ107_ : ss_M) (H : Heap) (locs : List Loc) (ls : Array Slot), sW 0 D Y A σ107_ s s.heap H locs → lv_has ls 4 [(0, .ref (A 0 6 0)), (1, .long x107_1)] → f_X7_digest_j107 x107_1 σ107_ = some (r, σ') → W p l e rm_X7_digest s m args below meth c H locs 0 0 (MQ below (Ql0 0 D Y A r σ') args s 0 0 (FA 0 A)) (F0 m 107 ls []) := by
      intro x107_1 σ107_ H locs ls hW hl hf
      rw [f_X7_digest_j107] at hf
      refine lv_iconst (v := (0 : Int32)) hx hb dX7_digest_107 (by decide) ?_
      refine lv_istore_n (lv' := [(3, .int (0 : Int32)), (0, .ref (A 0 6 0)), (1, .long x107_1)]) hx hb dX7_digest_108 rfl hl (by decide) rfl (fun ls hl => ?_)
      have J143 : ∀ (x143_1 : Int64) (σ143_ : ss_M) (H : Heap) (locs : List Loc) (ls : Array Slot), sW 0 D Y A σ143_ s s.heap H locs → lv_has ls 4 [(0, .ref (A 0 6 0)), (1, .long x143_1)] → f_X7_digest_j143 x143_1 σ143_ = some (r, σ') → W p l e rm_X7_digest s m args below meth c H locs 0 0 (MQ below (Ql0 0 D Y A r σ') args s 0 0 (FA 0 A)) (F0 m 143 ls []) := by
        intro x143_1 σ143_ H locs ls hW hl hf
        rw [f_X7_digest_j143] at hf
        refine lv_ldc2 hx hb hown (hts _ (List.mem_of_getElem? (i := 2) rfl)) dX7_digest_143 ?_
        refine lv_lload_n hx hb dX7_digest_146 rfl (lv_at hl 1 rfl) ?_
        refine lv_lmul hx hb dX7_digest_147 ?_
        refine lv_aload_n hx hb dX7_digest_148 rfl (lv_at hl 0 rfl) ?_
        refine gf_X7_chance hx hb hts hown hW (kS_in (by decide)) iX7 (List.mem_of_getElem? (i := 11) rfl) dX7_digest_149 ?_
        refine gf_X0_above hx hb hts hown hW (kS_in (by decide)) iX0 (List.mem_of_getElem? (i := 12) rfl) dX7_digest_152 ?_
        refine lv_ladd hx hb dX7_digest_155 ?_
        refine lv_lstore_n (lv' := [(1, .long (((31 : Int64) * x143_1) + (sL σ143_ 0))), (0, .ref (A 0 6 0))]) hx hb dX7_digest_156 rfl hl (by decide) rfl (fun ls hl => ?_)
        refine lv_ldc2 hx hb hown (hts _ (List.mem_of_getElem? (i := 2) rfl)) dX7_digest_157 ?_
        refine lv_lload_n hx hb dX7_digest_160 rfl (lv_at hl 0 rfl) ?_
        refine lv_lmul hx hb dX7_digest_161 ?_
        refine lv_aload_n hx hb dX7_digest_162 rfl (lv_at hl 1 rfl) ?_
        refine gf_X7_chance hx hb hts hown hW (kS_in (by decide)) iX7 (List.mem_of_getElem? (i := 11) rfl) dX7_digest_163 ?_
        refine gf_X0_below hx hb hts hown hW (kS_in (by decide)) iX0 (List.mem_of_getElem? (i := 13) rfl) dX7_digest_166 ?_
        refine lv_ladd hx hb dX7_digest_169 ?_
        exact re_l hx hb hr hlocks hW (Option.some.inj hf) dX7_digest_170
      have L109 : ∀ (n109 : Nat), ∀ (x109_1 : Int64) (x109_3 : Int32) (σ109_ : ss_M) (H : Heap) (locs : List Loc) (ls : Array Slot), sW 0 D Y A σ109_ s s.heap H locs → lv_has ls 4 [(0, .ref (A 0 6 0)), (1, .long x109_1), (3, .int x109_3)] → f_X7_digest_L109 (f_X7_digest_j143) n109 x109_1 x109_3 σ109_ = some (r, σ') → W p l e rm_X7_digest s m args below meth c H locs 0 0 (MQ below (Ql0 0 D Y A r σ') args s 0 0 (FA 0 A)) (F0 m 109 ls []) := by
        intro n109
        induction n109 with
        | zero =>
          intro x109_1 x109_3 σ109_ H locs ls hW hl hf
          rw [f_X7_digest_L109] at hf
          cases hf
        | succ n109 ih109 =>
          intro x109_1 x109_3 σ109_ H locs ls hW hl hf
          rw [f_X7_digest_L109] at hf
          refine lv_iload_n hx hb dX7_digest_109 rfl (lv_at hl 2 rfl) ?_
          refine lv_aload_n hx hb dX7_digest_110 rfl (lv_at hl 0 rfl) ?_
          refine gf_X7_page hx hb hts hown hW (kS_in (by decide)) iX7 (List.mem_of_getElem? (i := 3) rfl) dX7_digest_111 ?_
          refine gf_X4_heards hx hb hts hown hW (kS_in (by decide)) iX4 (List.mem_of_getElem? (i := 9) rfl) dX7_digest_114 ?_
          refine lv_icmp_ge (tgt := 143) hx hb dX7_digest_117 (by decide) (fun q1 => ?_) (fun q1 => ?_)
          · rw [if_pos q1] at hf
            exact J143 x109_1 σ109_ _ _ _ hW (lv_sub hl [0, 1] rfl) hf
          · rw [if_neg q1] at hf
            refine lv_ldc2 hx hb hown (hts _ (List.mem_of_getElem? (i := 2) rfl)) dX7_digest_120 ?_
            refine lv_lload_n hx hb dX7_digest_123 rfl (lv_at hl 1 rfl) ?_
            refine lv_lmul hx hb dX7_digest_124 ?_
            refine lv_aload_n hx hb dX7_digest_125 rfl (lv_at hl 0 rfl) ?_
            refine gf_X7_page hx hb hts hown hW (kS_in (by decide)) iX7 (List.mem_of_getElem? (i := 3) rfl) dX7_digest_126 ?_
            refine gf_X4_heard hx hb hts hown hW (kS_in (by decide)) iX4 (List.mem_of_getElem? (i := 10) rfl) dX7_digest_129 ?_
            refine lv_iload_n hx hb dX7_digest_132 rfl (lv_at hl 2 rfl) ?_
            obtain ⟨g2, hf⟩ := ss_if hf
            refine ra_i hx hb hW (kS_in (by decide)) g2 dX7_digest_133 ?_
            refine lv_i2l hx hb dX7_digest_134 rfl ?_
            refine lv_ladd hx hb dX7_digest_135 ?_
            refine lv_lstore_n (lv' := [(1, .long (((31 : Int64) * x109_1) + ((sA σ109_ 5 0 (x109_3).toNatClampNeg)).toInt64)), (0, .ref (A 0 6 0)), (3, .int x109_3)]) hx hb dX7_digest_136 rfl hl (by decide) rfl (fun ls hl => ?_)
            refine lv_iinc (v := (x109_3 + (1 : Int32))) (lv' := [(3, .int (x109_3 + (1 : Int32))), (1, .long (((31 : Int64) * x109_1) + ((sA σ109_ 5 0 (x109_3).toNatClampNeg)).toInt64)), (0, .ref (A 0 6 0))]) hx hb dX7_digest_137 hl (k := 2) rfl rfl (by decide) rfl (fun ls hl => ?_)
            refine lv_goto (tgt := 109) hx hb dX7_digest_140 (by decide) ?_
            exact ih109 (((31 : Int64) * x109_1) + ((sA σ109_ 5 0 (x109_3).toNatClampNeg)).toInt64) (x109_3 + (1 : Int32)) σ109_ _ _ _ hW (lv_sub hl [2, 1, 0] rfl) hf
      exact L109 FU x107_1 (0 : Int32) σ107_ _ _ _ hW (lv_sub hl [1, 2, 0] rfl) hf
    have L33 : ∀ (n33 : Nat), ∀ (x33_1 : Int64) (x33_3 : Int32) (σ33_ : ss_M) (H : Heap) (locs : List Loc) (ls : Array Slot), sW 0 D Y A σ33_ s s.heap H locs → lv_has ls 4 [(0, .ref (A 0 6 0)), (1, .long x33_1), (3, .int x33_3)] → f_X7_digest_L33 (f_X7_digest_j107) n33 x33_1 x33_3 σ33_ = some (r, σ') → W p l e rm_X7_digest s m args below meth c H locs 0 0 (MQ below (Ql0 0 D Y A r σ') args s 0 0 (FA 0 A)) (F0 m 33 ls []) := by
      intro n33
      induction n33 with
      | zero =>
        intro x33_1 x33_3 σ33_ H locs ls hW hl hf
        rw [f_X7_digest_L33] at hf
        cases hf
      | succ n33 ih33 =>
        intro x33_1 x33_3 σ33_ H locs ls hW hl hf
        rw [f_X7_digest_L33] at hf
        refine lv_iload_n hx hb dX7_digest_33 rfl (lv_at hl 2 rfl) ?_
        refine lv_aload_n hx hb dX7_digest_34 rfl (lv_at hl 0 rfl) ?_
        refine gf_X7_page hx hb hts hown hW (kS_in (by decide)) iX7 (List.mem_of_getElem? (i := 3) rfl) dX7_digest_35 ?_
        refine gf_X4_words hx hb hts hown hW (kS_in (by decide)) iX4 (List.mem_of_getElem? (i := 4) rfl) dX7_digest_38 ?_
        refine lv_icmp_ge (tgt := 107) hx hb dX7_digest_41 (by decide) (fun q3 => ?_) (fun q3 => ?_)
        · rw [if_pos q3] at hf
          exact J107 x33_1 σ33_ _ _ _ hW (lv_sub hl [0, 1] rfl) hf
        · rw [if_neg q3] at hf
          refine lv_ldc2 hx hb hown (hts _ (List.mem_of_getElem? (i := 2) rfl)) dX7_digest_44 ?_
          refine lv_lload_n hx hb dX7_digest_47 rfl (lv_at hl 1 rfl) ?_
          refine lv_lmul hx hb dX7_digest_48 ?_
          refine lv_aload_n hx hb dX7_digest_49 rfl (lv_at hl 0 rfl) ?_
          refine gf_X7_page hx hb hts hown hW (kS_in (by decide)) iX7 (List.mem_of_getElem? (i := 3) rfl) dX7_digest_50 ?_
          refine gf_X4_lengths hx hb hts hown hW (kS_in (by decide)) iX4 (List.mem_of_getElem? (i := 5) rfl) dX7_digest_53 ?_
          refine lv_iload_n hx hb dX7_digest_56 rfl (lv_at hl 2 rfl) ?_
          obtain ⟨g4, hf⟩ := ss_if hf
          refine ra_i hx hb hW (kS_in (by decide)) g4 dX7_digest_57 ?_
          refine lv_i2l hx hb dX7_digest_58 rfl ?_
          refine lv_ladd hx hb dX7_digest_59 ?_
          refine lv_lstore_n (lv' := [(1, .long (((31 : Int64) * x33_1) + ((sA σ33_ 4 0 (x33_3).toNatClampNeg)).toInt64)), (0, .ref (A 0 6 0)), (3, .int x33_3)]) hx hb dX7_digest_60 rfl hl (by decide) rfl (fun ls hl => ?_)
          refine lv_ldc2 hx hb hown (hts _ (List.mem_of_getElem? (i := 2) rfl)) dX7_digest_61 ?_
          refine lv_lload_n hx hb dX7_digest_64 rfl (lv_at hl 0 rfl) ?_
          refine lv_lmul hx hb dX7_digest_65 ?_
          refine lv_aload_n hx hb dX7_digest_66 rfl (lv_at hl 1 rfl) ?_
          refine gf_X7_page hx hb hts hown hW (kS_in (by decide)) iX7 (List.mem_of_getElem? (i := 3) rfl) dX7_digest_67 ?_
          refine gf_X4_marks hx hb hts hown hW (kS_in (by decide)) iX4 (List.mem_of_getElem? (i := 6) rfl) dX7_digest_70 ?_
          refine gf_X2_kinds hx hb hts hown hW (kS_in (by decide)) iX2 (List.mem_of_getElem? (i := 7) rfl) dX7_digest_73 ?_
          refine lv_iload_n hx hb dX7_digest_76 rfl (lv_at hl 2 rfl) ?_
          obtain ⟨g5, hf⟩ := ss_if hf
          refine ra_i hx hb hW (kS_in (by decide)) g5 dX7_digest_77 ?_
          refine lv_i2l hx hb dX7_digest_78 rfl ?_
          refine lv_ladd hx hb dX7_digest_79 ?_
          refine lv_lstore_n (lv' := [(1, .long (((31 : Int64) * (((31 : Int64) * x33_1) + ((sA σ33_ 4 0 (x33_3).toNatClampNeg)).toInt64)) + ((sA σ33_ 0 0 (x33_3).toNatClampNeg)).toInt64)), (0, .ref (A 0 6 0)), (3, .int x33_3)]) hx hb dX7_digest_80 rfl hl (by decide) rfl (fun ls hl => ?_)
          refine lv_ldc2 hx hb hown (hts _ (List.mem_of_getElem? (i := 2) rfl)) dX7_digest_81 ?_
          refine lv_lload_n hx hb dX7_digest_84 rfl (lv_at hl 0 rfl) ?_
          refine lv_lmul hx hb dX7_digest_85 ?_
          refine lv_aload_n hx hb dX7_digest_86 rfl (lv_at hl 1 rfl) ?_
          refine gf_X7_page hx hb hts hown hW (kS_in (by decide)) iX7 (List.mem_of_getElem? (i := 3) rfl) dX7_digest_87 ?_
          refine gf_X4_marks hx hb hts hown hW (kS_in (by decide)) iX4 (List.mem_of_getElem? (i := 6) rfl) dX7_digest_90 ?_
          refine gf_X2_reads hx hb hts hown hW (kS_in (by decide)) iX2 (List.mem_of_getElem? (i := 8) rfl) dX7_digest_93 ?_
          refine lv_iload_n hx hb dX7_digest_96 rfl (lv_at hl 2 rfl) ?_
          obtain ⟨g6, hf⟩ := ss_if hf
          refine ra_i hx hb hW (kS_in (by decide)) g6 dX7_digest_97 ?_
          refine lv_i2l hx hb dX7_digest_98 rfl ?_
          refine lv_ladd hx hb dX7_digest_99 ?_
          refine lv_lstore_n (lv' := [(1, .long (((31 : Int64) * (((31 : Int64) * (((31 : Int64) * x33_1) + ((sA σ33_ 4 0 (x33_3).toNatClampNeg)).toInt64)) + ((sA σ33_ 0 0 (x33_3).toNatClampNeg)).toInt64)) + ((sA σ33_ 1 0 (x33_3).toNatClampNeg)).toInt64)), (0, .ref (A 0 6 0)), (3, .int x33_3)]) hx hb dX7_digest_100 rfl hl (by decide) rfl (fun ls hl => ?_)
          refine lv_iinc (v := (x33_3 + (1 : Int32))) (lv' := [(3, .int (x33_3 + (1 : Int32))), (1, .long (((31 : Int64) * (((31 : Int64) * (((31 : Int64) * x33_1) + ((sA σ33_ 4 0 (x33_3).toNatClampNeg)).toInt64)) + ((sA σ33_ 0 0 (x33_3).toNatClampNeg)).toInt64)) + ((sA σ33_ 1 0 (x33_3).toNatClampNeg)).toInt64)), (0, .ref (A 0 6 0))]) hx hb dX7_digest_101 hl (k := 2) rfl rfl (by decide) rfl (fun ls hl => ?_)
          refine lv_goto (tgt := 33) hx hb dX7_digest_104 (by decide) ?_
          exact ih33 (((31 : Int64) * (((31 : Int64) * (((31 : Int64) * x33_1) + ((sA σ33_ 4 0 (x33_3).toNatClampNeg)).toInt64)) + ((sA σ33_ 0 0 (x33_3).toNatClampNeg)).toInt64)) + ((sA σ33_ 1 0 (x33_3).toNatClampNeg)).toInt64) (x33_3 + (1 : Int32)) σ33_ _ _ _ hW (lv_sub hl [2, 1, 0] rfl) hf
    exact L33 FU x31_1 (0 : Int32) σ31_ _ _ _ hW (lv_sub hl [1, 2, 0] rfl) hf
  have L6 : ∀ (n6 : Nat), ∀ (x6_1 : Int64) (x6_3 : Int32) (σ6_ : ss_M) (H : Heap) (locs : List Loc) (ls : Array Slot), sW 0 D Y A σ6_ s s.heap H locs → lv_has ls 4 [(0, .ref (A 0 6 0)), (1, .long x6_1), (3, .int x6_3)] → f_X7_digest_L6 (f_X7_digest_j31) n6 x6_1 x6_3 σ6_ = some (r, σ') → W p l e rm_X7_digest s m args below meth c H locs 0 0 (MQ below (Ql0 0 D Y A r σ') args s 0 0 (FA 0 A)) (F0 m 6 ls []) := by
    intro n6
    induction n6 with
    | zero =>
      intro x6_1 x6_3 σ6_ H locs ls hW hl hf
      rw [f_X7_digest_L6] at hf
      cases hf
    | succ n6 ih6 =>
      intro x6_1 x6_3 σ6_ H locs ls hW hl hf
      rw [f_X7_digest_L6] at hf
      refine lv_iload_n hx hb dX7_digest_6 rfl (lv_at hl 2 rfl) ?_
      refine lv_bipush (v := (9 : Int32)) hx hb dX7_digest_7 (by decide) ?_
      refine lv_icmp_ge (tgt := 31) hx hb dX7_digest_9 (by decide) (fun q7 => ?_) (fun q7 => ?_)
      · rw [if_pos q7] at hf
        exact J31 x6_1 σ6_ _ _ _ hW (lv_sub hl [0, 1] rfl) hf
      · rw [if_neg q7] at hf
        refine lv_ldc2 hx hb hown (hts _ (List.mem_of_getElem? (i := 2) rfl)) dX7_digest_12 ?_
        refine lv_lload_n hx hb dX7_digest_15 rfl (lv_at hl 1 rfl) ?_
        refine lv_lmul hx hb dX7_digest_16 ?_
        refine lv_aload_n hx hb dX7_digest_17 rfl (lv_at hl 0 rfl) ?_
        refine lv_iload_n hx hb dX7_digest_18 rfl (lv_at hl 2 rfl) ?_
        obtain ⟨r8, σ8, hf8, hf⟩ := ss_bd_some hf
        refine rv_i S (c_X7_countOf l hAD  hf8) (cwV 1 hts gX7_digest_X7_countOf rfl rfl rfl hd_X7_countOf ⟨(Nat.le_of_ble_eq_true rfl), (Nat.le_of_ble_eq_true rfl)⟩) hW (kS_in (by decide)) rfl rfl rfl hl.1 (Nat.le_of_ble_eq_true rfl) ⟨Nat.zero_le _, Nat.zero_le _⟩ dX7_digest_19 (fun H locs hW => ?_)
        refine lv_i2l hx hb dX7_digest_22 rfl ?_
        refine lv_ladd hx hb dX7_digest_23 ?_
        refine lv_lstore_n (lv' := [(1, .long (((31 : Int64) * x6_1) + (r8).toInt64)), (0, .ref (A 0 6 0)), (3, .int x6_3)]) hx hb dX7_digest_24 rfl hl (by decide) rfl (fun ls hl => ?_)
        refine lv_iinc (v := (x6_3 + (1 : Int32))) (lv' := [(3, .int (x6_3 + (1 : Int32))), (1, .long (((31 : Int64) * x6_1) + (r8).toInt64)), (0, .ref (A 0 6 0))]) hx hb dX7_digest_25 hl (k := 2) rfl rfl (by decide) rfl (fun ls hl => ?_)
        refine lv_goto (tgt := 6) hx hb dX7_digest_28 (by decide) ?_
        exact ih6 (((31 : Int64) * x6_1) + (r8).toInt64) (x6_3 + (1 : Int32)) σ8 _ _ _ hW (lv_sub hl [2, 1, 0] rfl) hf
  exact L6 FU (1063 : Int64) (0 : Int32) σ _ _ _ hW (lv_sub hl [2, 1, 0] rfl) hf
