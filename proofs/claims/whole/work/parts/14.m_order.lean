def f_X3_keepRow_j57 (x24_4 : Int32) (kb24 : Int32 → Int32 → ss_M → Option ss_M) (x57_3 : Int32) (σ57_ : ss_M) : Option ss_M :=
  kb24 x57_3 (x24_4 + (1 : Int32)) σ57_
def f_X3_keepRow_L24 (p0 : Int32) : Nat → Int32 → Int32 → ss_M → Option ss_M
  | 0, _, _, _ => none
  | n24 + 1, x24_3, x24_4, σ24_ => if p0 ≤ x24_4 then (some σ24_) else (if (7 : Int32) ≤ x24_3 then (some σ24_) else (if gd x24_4 7 = true then (if (sA σ24_ 100 0 (x24_4).toNatClampNeg) = (0 : Int32) then (if gd x24_3 7 = true then (f_X3_keepRow_j57 x24_4 (f_X3_keepRow_L24 p0 n24) (x24_3 + (1 : Int32)) (sAu σ24_ 2 0 (upd (sA σ24_ 2 0) (x24_3).toNatClampNeg x24_4))) else none) else (f_X3_keepRow_j57 x24_4 (f_X3_keepRow_L24 p0 n24) x24_3 σ24_)) else none))
def f_X3_keepRow (p0 : Int32) (p1 : Int32) (σ : ss_M) : Option ss_M :=
  if gdc (0 : Int32) (0 : Int32) p1 7 7 = true then (ss_let (sAu (sGu σ 2 0 p1) 2 0 (va_cpy (sA (sGu σ 2 0 p1) 3 0) (sA (sGu σ 2 0 p1) 2 0) ((0 : Int32)).toNatClampNeg ((0 : Int32)).toNatClampNeg (p1).toNatClampNeg)) (fun σm2 => f_X3_keepRow_L24 p0 FU p1 (0 : Int32) σm2)) else none
def rm_X3_keepRow : Room := { frames := 2, cells := 0, slots := 0, locals := 100 }
theorem hd_X3_keepRow : yX3_keepRow.cls = RX3 ∧ yX3_keepRow.cls ≠ "java/lang/invoke/MethodHandle" ∧ yX3_keepRow.cls ≠ "java/lang/invoke/VarHandle" ∧ (parseMethodDescriptor yX3_keepRow.desc).map (fun d => d.parameters.length) = some 2 := by decide +kernel
set_option maxHeartbeats 4000000 in
set_option maxRecDepth 100000 in
theorem c_X3_keepRow (l : Launch) {D : va_G} {Y : Nat → ClassId} {A : ss_A} (hAD : AD 0 A) {p0 : Int32} {p1 : Int32}  {σ σ' : ss_M} (hf : f_X3_keepRow p0 p1 σ = some σ') : Met l yX3_keepRow wsX3_keepRow rm_X3_keepRow (Pc0 0 D Y A σ [.ref (A 0 2 0), .int p0, .int p1]) (Qv0 0 D Y A σ') 0 0 (FA 0 A) := by
  rw [f_X3_keepRow] at hf
  refine Met0 (cc := cX3_keepRow) (maxL := 5) (ret := none) (own := RX3) (by decide +kernel) rfl hAD rfl (Nat.le_of_ble_eq_true rfl) ?_
  intro p e s m args below meth c S hr hlocks hW ls hl
  obtain ⟨hx, hb, hml, hown, hts⟩ := id S
  have iX3 : ∀ q ∈ wsX30, q ∈ wsX3_keepRow := fun q h => List.mem_cons_of_mem _ (List.mem_append_right _ (h))
  have hl : lv_has ls 5 [(0, .ref (A 0 2 0)), (1, .int p0), (2, .int p1)] := hl
  refine lv_aload_n hx hb dX3_keepRow_0 rfl (lv_at hl 0 rfl) ?_
  refine lv_iload_n hx hb dX3_keepRow_1 rfl (lv_at hl 2 rfl) ?_
  refine pf_X3_most hx hb hts hown hW (kS_in (by decide)) iX3 (List.mem_of_getElem? (i := 1) rfl) dX3_keepRow_2 (fun H locs hW => ?_)
  refine lv_aload_n hx hb dX3_keepRow_5 rfl (lv_at hl 0 rfl) ?_
  refine gf_X3_row hx hb hts hown hW (kS_in (by decide)) iX3 (List.mem_of_getElem? (i := 2) rfl) dX3_keepRow_6 ?_
  refine lv_iconst (v := (0 : Int32)) hx hb dX3_keepRow_9 (by decide) ?_
  refine lv_aload_n hx hb dX3_keepRow_10 rfl (lv_at hl 0 rfl) ?_
  refine gf_X3_best hx hb hts hown hW (kS_in (by decide)) iX3 (List.mem_of_getElem? (i := 3) rfl) dX3_keepRow_11 ?_
  refine lv_iconst (v := (0 : Int32)) hx hb dX3_keepRow_14 (by decide) ?_
  refine lv_iload_n hx hb dX3_keepRow_15 rfl (lv_at hl 2 rfl) ?_
  obtain ⟨g1, hf⟩ := ss_if hf
  refine rcp hx hb hts hown (hml.trans hl.1.symm) (List.mem_of_getElem? (i := 4) rfl) (List.mem_of_getElem? (i := 5) rfl) (List.mem_of_getElem? (i := 6) rfl) (List.mem_of_getElem? (i := 7) rfl) hW (kS_in (by decide)) (kS_in (by decide)) g1 (Nat.le_of_ble_eq_true rfl) (Nat.le_of_ble_eq_true rfl) dX3_keepRow_16 (fun H locs hW => ?_)
  obtain ⟨σm2, eσm2, hf⟩ := ss_let_some hf
  rw [← eσm2] at hW
  refine lv_iload_n hx hb dX3_keepRow_19 rfl (lv_at hl 2 rfl) ?_
  refine lv_istore_n (lv' := [(3, .int p1), (0, .ref (A 0 2 0)), (1, .int p0), (2, .int p1)]) hx hb dX3_keepRow_20 rfl hl (by decide) rfl (fun ls hl => ?_)
  refine lv_iconst (v := (0 : Int32)) hx hb dX3_keepRow_21 (by decide) ?_
  refine lv_istore (lv' := [(4, .int (0 : Int32)), (3, .int p1), (0, .ref (A 0 2 0)), (1, .int p0), (2, .int p1)]) hx hb dX3_keepRow_22 hl (by decide) rfl (fun ls hl => ?_)
  have L24 : ∀ (n24 : Nat), ∀ (x24_3 : Int32) (x24_4 : Int32) (σ24_ : ss_M) (H : Heap) (locs : List Loc) (ls : Array Slot), sW 0 D Y A σ24_ s s.heap H locs → lv_has ls 5 [(0, .ref (A 0 2 0)), (1, .int p0), (3, .int x24_3), (4, .int x24_4)] → f_X3_keepRow_L24 p0 n24 x24_3 x24_4 σ24_ = some σ' → W p l e rm_X3_keepRow s m args below meth c H locs 0 0 (MQ below (Qv0 0 D Y A σ') args s 0 0 (FA 0 A)) (F0 m 24 ls []) := by
    intro n24
    induction n24 with
    | zero =>
      intro x24_3 x24_4 σ24_ H locs ls hW hl hf
      rw [f_X3_keepRow_L24] at hf
      cases hf
    | succ n24 ih24 =>
      intro x24_3 x24_4 σ24_ H locs ls hW hl hf
      rw [f_X3_keepRow_L24] at hf
      refine lv_iload hx hb dX3_keepRow_24 (lv_at hl 3 rfl) ?_
      refine lv_iload_n hx hb dX3_keepRow_26 rfl (lv_at hl 1 rfl) ?_
      refine lv_icmp_ge (tgt := 63) hx hb dX3_keepRow_27 (by decide) (fun q3 => ?_) (fun q3 => ?_)
      · rw [if_pos q3] at hf
        exact re_v hx hb hr hlocks hW (Option.some.inj hf) dX3_keepRow_63
      · rw [if_neg q3] at hf
        refine lv_iload_n hx hb dX3_keepRow_30 rfl (lv_at hl 2 rfl) ?_
        refine lv_bipush (v := (7 : Int32)) hx hb dX3_keepRow_31 (by decide) ?_
        refine lv_icmp_ge (tgt := 63) hx hb dX3_keepRow_33 (by decide) (fun q4 => ?_) (fun q4 => ?_)
        · rw [if_pos q4] at hf
          exact re_v hx hb hr hlocks hW (Option.some.inj hf) dX3_keepRow_63
        · rw [if_neg q4] at hf
          refine lv_aload_n hx hb dX3_keepRow_36 rfl (lv_at hl 0 rfl) ?_
          refine gf_X3_used hx hb hts hown hW (kS_in (by decide)) iX3 (List.mem_of_getElem? (i := 8) rfl) dX3_keepRow_37 ?_
          refine lv_iload hx hb dX3_keepRow_40 (lv_at hl 3 rfl) ?_
          obtain ⟨g5, hf⟩ := ss_if hf
          refine ra_z hx hb hW (kS_in (by decide)) g5 dX3_keepRow_42 ?_
          have J57 : ∀ (x57_3 : Int32) (σ57_ : ss_M) (H : Heap) (locs : List Loc) (ls : Array Slot), sW 0 D Y A σ57_ s s.heap H locs → lv_has ls 5 [(0, .ref (A 0 2 0)), (1, .int p0), (3, .int x57_3), (4, .int x24_4)] → f_X3_keepRow_j57 x24_4 (f_X3_keepRow_L24 p0 n24) x57_3 σ57_ = some σ' → W p l e rm_X3_keepRow s m args below meth c H locs 0 0 (MQ below (Qv0 0 D Y A σ') args s 0 0 (FA 0 A)) (F0 m 57 ls []) := by
            intro x57_3 σ57_ H locs ls hW hl hf
            rw [f_X3_keepRow_j57] at hf
            refine lv_iinc (v := (x24_4 + (1 : Int32))) (lv' := [(4, .int (x24_4 + (1 : Int32))), (0, .ref (A 0 2 0)), (1, .int p0), (3, .int x57_3)]) hx hb dX3_keepRow_57 hl (k := 3) rfl rfl (by decide) rfl (fun ls hl => ?_)
            refine lv_goto (tgt := 24) hx hb dX3_keepRow_60 (by decide) ?_
            exact ih24 x57_3 (x24_4 + (1 : Int32)) σ57_ _ _ _ hW (lv_sub hl [1, 2, 3, 0] rfl) hf
          refine lv_if_ne (tgt := 57) hx hb dX3_keepRow_43 (by decide) (fun q6 => ?_) (fun q6 => ?_)
          · rw [if_neg q6] at hf
            exact J57 x24_3 σ24_ _ _ _ hW (lv_sub hl [0, 1, 2, 3] rfl) hf
          · rw [if_pos q6] at hf
            refine lv_aload_n hx hb dX3_keepRow_46 rfl (lv_at hl 0 rfl) ?_
            refine gf_X3_best hx hb hts hown hW (kS_in (by decide)) iX3 (List.mem_of_getElem? (i := 3) rfl) dX3_keepRow_47 ?_
            refine lv_iload_n hx hb dX3_keepRow_50 rfl (lv_at hl 2 rfl) ?_
            refine lv_iload hx hb dX3_keepRow_51 (lv_at hl 3 rfl) ?_
            obtain ⟨g7, hf⟩ := ss_if hf
            refine rs_i hx hb hW (kS_in (by decide)) g7 dX3_keepRow_53 (fun H locs hW => ?_)
            refine lv_iinc (v := (x24_3 + (1 : Int32))) (lv' := [(3, .int (x24_3 + (1 : Int32))), (0, .ref (A 0 2 0)), (1, .int p0), (4, .int x24_4)]) hx hb dX3_keepRow_54 hl (k := 2) rfl rfl (by decide) rfl (fun ls hl => ?_)
            exact J57 (x24_3 + (1 : Int32)) (sAu σ24_ 2 0 (upd (sA σ24_ 2 0) (x24_3).toNatClampNeg x24_4)) _ _ _ hW (lv_sub hl [1, 2, 0, 3] rfl) hf
  exact L24 FU p1 (0 : Int32) σm2 _ _ _ hW (lv_sub hl [2, 3, 1, 0] rfl) hf
def f_X3_extend_j123 (x27_4 : Int32) (kb27 : Int32 → ss_M → Option ss_M) (σ123_ : ss_M) : Option ss_M :=
  kb27 (x27_4 + (1 : Int32)) σ123_
def f_X3_extend_L27 (rc : Nat → Int32 → Int32 → ss_M → Option ss_M) (o1 : Nat) (p2 : Int32) (p3 : Int32) : Nat → Int32 → ss_M → Option ss_M
  | 0, _, _ => none
  | n27 + 1, x27_4, σ27_ => if (sG σ27_ 5 o1) ≤ x27_4 then (some σ27_) else (if (7 : Int32) ≤ x27_4 then (some σ27_) else (if (sG σ27_ 5 o1) ≤ (sG σ27_ 2 0) then (some σ27_) else (if gd x27_4 12 = true then (ss_bd (f_X4_leftBehind o1 p2 (sA σ27_ 4 o1 (x27_4).toNatClampNeg) p3 (sG σ27_ 3 o1) σ27_) (fun r6 σ6 => if gd x27_4 7 = true then (if (sA σ6 100 0 (x27_4).toNatClampNeg) = (0 : Int32) then (if r6 = (-1 : Int32) then (f_X3_extend_j123 x27_4 (f_X3_extend_L27 rc o1 p2 p3 n27) σ6) else (if gd x27_4 7 = true then (if gd p2 7 = true then (ss_let (sAu (sAu σ6 100 0 (upd (sA σ6 100 0) (x27_4).toNatClampNeg (1 : Int32))) 3 0 (upd (sA (sAu σ6 100 0 (upd (sA σ6 100 0) (x27_4).toNatClampNeg (1 : Int32))) 3 0) (p2).toNatClampNeg x27_4)) (fun σm12 => Option.bind (rc o1 (p2 + (1 : Int32)) r6 σm12) (fun σ13 => if gd x27_4 7 = true then (f_X3_extend_j123 x27_4 (f_X3_extend_L27 rc o1 p2 p3 n27) (sAu σ13 100 0 (upd (sA σ13 100 0) (x27_4).toNatClampNeg (0 : Int32)))) else none))) else none) else none)) else (f_X3_extend_j123 x27_4 (f_X3_extend_L27 rc o1 p2 p3 n27) σ6)) else none)) else none)))
def f_X3_extend_j17 (rc : Nat → Int32 → Int32 → ss_M → Option ss_M) (o1 : Nat) (p2 : Int32) (p3 : Int32) (σ17_ : ss_M) : Option ss_M :=
  if p2 < (7 : Int32) then (f_X3_extend_L27 rc o1 p2 p3 FU (0 : Int32) σ17_) else (some σ17_)
def f_X3_extend : Nat → Nat → Int32 → Int32 → ss_M → Option ss_M
  | 0, _, _, _, _ => none
  | d + 1, o1, p2, p3, σ => if p2 ≤ (sG σ 2 0) then (f_X3_extend_j17 (f_X3_extend d) o1 p2 p3 σ) else (Option.bind (f_X3_keepRow (sG σ 5 o1) p2 σ) (fun σ16 => f_X3_extend_j17 (f_X3_extend d) o1 p2 p3 σ16))
def rm_X3_extend (d : Nat) : Room := { frames := 6 + 4 * d, cells := 0, slots := 0, locals := 300 + 100 * d }
theorem hd_X3_extend : yX3_extend.cls ≠ "java/lang/invoke/MethodHandle" ∧ yX3_extend.cls ≠ "java/lang/invoke/VarHandle" ∧ (parseMethodDescriptor yX3_extend.desc).map (fun d => d.parameters.length) = some 4 := by decide +kernel
set_option maxHeartbeats 4000000 in
set_option maxRecDepth 100000 in
theorem c_X3_extend_d (l : Launch) {D : va_G} {Y : Nat → ClassId} {A : ss_A} (hAD : AD 0 A) : ∀ (d : Nat) {o1 : Nat} {p2 : Int32} {p3 : Int32} (ho1 : o1 < 4) {σ σ' : ss_M} (hf : f_X3_extend d o1 p2 p3 σ = some σ'), Met l yX3_extend wsX3_extend (rm_X3_extend d) (Pc0 0 D Y A σ [.ref (A 0 2 0), .ref (A 0 3 o1), .int p2, .int p3]) (Qv0 0 D Y A σ') 0 0 (FA 0 A) := by
  intro d
  induction d with
  | zero =>
    intro o1 p2 p3 ho1 σ σ' hf
    rw [f_X3_extend] at hf
    cases hf
  | succ d ihd =>
    intro o1 p2 p3 ho1 σ σ' hf
    rw [f_X3_extend] at hf
    refine Met0 (cc := cX3_extend) (maxL := 6) (ret := none) (own := RX3) (by decide +kernel) rfl hAD rfl (Nat.le_of_ble_eq_true rfl) ?_
    intro p e s m args below meth c S hr hlocks hW ls hl
    obtain ⟨hx, hb, hml, hown, hts⟩ := id S
    have iX3 : ∀ q ∈ wsX30, q ∈ wsX3_extend := fun q h => List.mem_cons_of_mem _ (List.mem_append_left _ (List.mem_append_left _ (List.mem_append_right _ (h))))
    have iX4 : ∀ q ∈ wsX40, q ∈ wsX3_extend := fun q h => List.mem_cons_of_mem _ (List.mem_append_left _ (List.mem_append_right _ (h)))
    have hl : lv_has ls 6 [(0, .ref (A 0 2 0)), (1, .ref (A 0 3 o1)), (2, .int p2), (3, .int p3)] := hl
    refine lv_iload_n hx hb dX3_extend_0 rfl (lv_at hl 2 rfl) ?_
    refine lv_aload_n hx hb dX3_extend_1 rfl (lv_at hl 0 rfl) ?_
    refine gf_X3_most hx hb hts hown hW (kS_in (by decide)) iX3 (List.mem_of_getElem? (i := 1) rfl) dX3_extend_2 ?_
    have J17 : ∀ (σ17_ : ss_M) (H : Heap) (locs : List Loc) (ls : Array Slot), sW 0 D Y A σ17_ s s.heap H locs → lv_has ls 6 [(0, .ref (A 0 2 0)), (1, .ref (A 0 3 o1)), (2, .int p2), (3, .int p3)] → f_X3_extend_j17 (f_X3_extend d) o1 p2 p3 σ17_ = some σ' → W p l e (rm_X3_extend (d + 1)) s m args below meth c H locs 0 0 (MQ below (Qv0 0 D Y A σ') args s 0 0 (FA 0 A)) (F0 m 17 ls []) := by
      intro σ17_ H locs ls hW hl hf
      rw [f_X3_extend_j17] at hf
      refine lv_iload_n hx hb dX3_extend_17 rfl (lv_at hl 2 rfl) ?_
      refine lv_bipush (v := (7 : Int32)) hx hb dX3_extend_18 (by decide) ?_
      refine lv_icmp_lt (tgt := 24) hx hb dX3_extend_20 (by decide) (fun q1 => ?_) (fun q1 => ?_)
      · rw [if_pos q1] at hf
        refine lv_iconst (v := (0 : Int32)) hx hb dX3_extend_24 (by decide) ?_
        refine lv_istore (lv' := [(4, .int (0 : Int32)), (0, .ref (A 0 2 0)), (1, .ref (A 0 3 o1)), (2, .int p2), (3, .int p3)]) hx hb dX3_extend_25 hl (by decide) rfl (fun ls hl => ?_)
        have L27 : ∀ (n27 : Nat), ∀ (x27_4 : Int32) (σ27_ : ss_M) (H : Heap) (locs : List Loc) (ls : Array Slot), sW 0 D Y A σ27_ s s.heap H locs → lv_has ls 6 [(0, .ref (A 0 2 0)), (1, .ref (A 0 3 o1)), (2, .int p2), (3, .int p3), (4, .int x27_4)] → f_X3_extend_L27 (f_X3_extend d) o1 p2 p3 n27 x27_4 σ27_ = some σ' → W p l e (rm_X3_extend (d + 1)) s m args below meth c H locs 0 0 (MQ below (Qv0 0 D Y A σ') args s 0 0 (FA 0 A)) (F0 m 27 ls []) := by
          intro n27
          induction n27 with
          | zero =>
            intro x27_4 σ27_ H locs ls hW hl hf
            rw [f_X3_extend_L27] at hf
            cases hf
          | succ n27 ih27 =>
            intro x27_4 σ27_ H locs ls hW hl hf
            rw [f_X3_extend_L27] at hf
            refine lv_iload hx hb dX3_extend_27 (lv_at hl 4 rfl) ?_
            refine lv_aload_n hx hb dX3_extend_29 rfl (lv_at hl 1 rfl) ?_
            refine gf_X4_words hx hb hts hown hW (kS_in ho1) iX4 (List.mem_of_getElem? (i := 2) rfl) dX3_extend_30 ?_
            refine lv_icmp_ge (tgt := 129) hx hb dX3_extend_33 (by decide) (fun q2 => ?_) (fun q2 => ?_)
            · rw [if_pos q2] at hf
              exact re_v hx hb hr hlocks hW (Option.some.inj hf) dX3_extend_129
            · rw [if_neg q2] at hf
              refine lv_iload hx hb dX3_extend_36 (lv_at hl 4 rfl) ?_
              refine lv_bipush (v := (7 : Int32)) hx hb dX3_extend_38 (by decide) ?_
              refine lv_icmp_ge (tgt := 129) hx hb dX3_extend_40 (by decide) (fun q3 => ?_) (fun q3 => ?_)
              · rw [if_pos q3] at hf
                exact re_v hx hb hr hlocks hW (Option.some.inj hf) dX3_extend_129
              · rw [if_neg q3] at hf
                refine lv_aload_n hx hb dX3_extend_43 rfl (lv_at hl 0 rfl) ?_
                refine gf_X3_most hx hb hts hown hW (kS_in (by decide)) iX3 (List.mem_of_getElem? (i := 1) rfl) dX3_extend_44 ?_
                refine lv_aload_n hx hb dX3_extend_47 rfl (lv_at hl 1 rfl) ?_
                refine gf_X4_words hx hb hts hown hW (kS_in ho1) iX4 (List.mem_of_getElem? (i := 2) rfl) dX3_extend_48 ?_
                refine lv_icmp_ge (tgt := 129) hx hb dX3_extend_51 (by decide) (fun q4 => ?_) (fun q4 => ?_)
                · rw [if_pos q4] at hf
                  exact re_v hx hb hr hlocks hW (Option.some.inj hf) dX3_extend_129
                · rw [if_neg q4] at hf
                  refine lv_aload_n hx hb dX3_extend_54 rfl (lv_at hl 1 rfl) ?_
                  refine lv_iload_n hx hb dX3_extend_55 rfl (lv_at hl 2 rfl) ?_
                  refine lv_aload_n hx hb dX3_extend_56 rfl (lv_at hl 1 rfl) ?_
                  refine gf_X4_lengths hx hb hts hown hW (kS_in ho1) iX4 (List.mem_of_getElem? (i := 3) rfl) dX3_extend_57 ?_
                  refine lv_iload hx hb dX3_extend_60 (lv_at hl 4 rfl) ?_
                  obtain ⟨g5, hf⟩ := ss_if hf
                  refine ra_i hx hb hW (kS_in ho1) g5 dX3_extend_62 ?_
                  refine lv_iload_n hx hb dX3_extend_63 rfl (lv_at hl 3 rfl) ?_
                  refine lv_aload_n hx hb dX3_extend_64 rfl (lv_at hl 1 rfl) ?_
                  refine gf_X4_breath hx hb hts hown hW (kS_in ho1) iX4 (List.mem_of_getElem? (i := 4) rfl) dX3_extend_65 ?_
                  obtain ⟨r6, σ6, hf6, hf⟩ := ss_bd_some hf
                  refine rv_i S (c_X4_leftBehind l hAD ho1 hf6) (cwV 4 hts gX3_extend_X4_leftBehind rfl rfl rfl hd_X4_leftBehind ⟨(by simp only [rm_X3_extend, rm_X4_leftBehind]; omega), (by simp only [rm_X3_extend, rm_X4_leftBehind]; omega)⟩) hW (kS_in ho1) rfl rfl rfl hl.1 (Nat.le_of_ble_eq_true rfl) ⟨Nat.zero_le _, Nat.zero_le _⟩ dX3_extend_68 (fun H locs hW => ?_)
                  refine lv_istore (lv' := [(5, .int r6), (0, .ref (A 0 2 0)), (1, .ref (A 0 3 o1)), (2, .int p2), (3, .int p3), (4, .int x27_4)]) hx hb dX3_extend_71 hl (by decide) rfl (fun ls hl => ?_)
                  refine lv_aload_n hx hb dX3_extend_73 rfl (lv_at hl 1 rfl) ?_
                  refine gf_X3_used hx hb hts hown hW (kS_in (by decide)) iX3 (List.mem_of_getElem? (i := 5) rfl) dX3_extend_74 ?_
                  refine lv_iload hx hb dX3_extend_77 (lv_at hl 5 rfl) ?_
                  obtain ⟨g7, hf⟩ := ss_if hf
                  refine ra_z hx hb hW (kS_in (by decide)) g7 dX3_extend_79 ?_
                  have J123 : ∀ (σ123_ : ss_M) (H : Heap) (locs : List Loc) (ls : Array Slot), sW 0 D Y A σ123_ s s.heap H locs → lv_has ls 6 [(0, .ref (A 0 2 0)), (1, .ref (A 0 3 o1)), (2, .int p2), (3, .int p3), (4, .int x27_4)] → f_X3_extend_j123 x27_4 (f_X3_extend_L27 (f_X3_extend d) o1 p2 p3 n27) σ123_ = some σ' → W p l e (rm_X3_extend (d + 1)) s m args below meth c H locs 0 0 (MQ below (Qv0 0 D Y A σ') args s 0 0 (FA 0 A)) (F0 m 123 ls []) := by
                    intro σ123_ H locs ls hW hl hf
                    rw [f_X3_extend_j123] at hf
                    refine lv_iinc (v := (x27_4 + (1 : Int32))) (lv' := [(4, .int (x27_4 + (1 : Int32))), (0, .ref (A 0 2 0)), (1, .ref (A 0 3 o1)), (2, .int p2), (3, .int p3)]) hx hb dX3_extend_123 hl (k := 4) rfl rfl (by decide) rfl (fun ls hl => ?_)
                    refine lv_goto (tgt := 27) hx hb dX3_extend_126 (by decide) ?_
                    exact ih27 (x27_4 + (1 : Int32)) σ123_ _ _ _ hW (lv_sub hl [1, 2, 3, 4, 0] rfl) hf
                  refine lv_if_ne (tgt := 123) hx hb dX3_extend_80 (by decide) (fun q8 => ?_) (fun q8 => ?_)
                  · rw [if_neg q8] at hf
                    exact J123 σ6 _ _ _ hW (lv_sub hl [1, 2, 3, 4, 5] rfl) hf
                  · rw [if_pos q8] at hf
                    refine lv_iload hx hb dX3_extend_83 (lv_at hl 0 rfl) ?_
                    refine lv_iconst (v := (-1 : Int32)) hx hb dX3_extend_85 (by decide) ?_
                    refine lv_icmp_eq (tgt := 123) hx hb dX3_extend_86 (by decide) (fun q9 => ?_) (fun q9 => ?_)
                    · rw [if_pos q9] at hf
                      exact J123 σ6 _ _ _ hW (lv_sub hl [1, 2, 3, 4, 5] rfl) hf
                    · rw [if_neg q9] at hf
                      refine lv_aload_n hx hb dX3_extend_89 rfl (lv_at hl 1 rfl) ?_
                      refine gf_X3_used hx hb hts hown hW (kS_in (by decide)) iX3 (List.mem_of_getElem? (i := 5) rfl) dX3_extend_90 ?_
                      refine lv_iload hx hb dX3_extend_93 (lv_at hl 5 rfl) ?_
                      refine lv_iconst (v := (1 : Int32)) hx hb dX3_extend_95 (by decide) ?_
                      obtain ⟨g10, hf⟩ := ss_if hf
                      refine rs_z hx hb hW (kS_in (by decide)) g10 (by decide) dX3_extend_96 (fun H locs hW => ?_)
                      refine lv_aload_n hx hb dX3_extend_97 rfl (lv_at hl 1 rfl) ?_
                      refine gf_X3_row hx hb hts hown hW (kS_in (by decide)) iX3 (List.mem_of_getElem? (i := 6) rfl) dX3_extend_98 ?_
                      refine lv_iload_n hx hb dX3_extend_101 rfl (lv_at hl 3 rfl) ?_
                      refine lv_iload hx hb dX3_extend_102 (lv_at hl 5 rfl) ?_
                      obtain ⟨g11, hf⟩ := ss_if hf
                      refine rs_i hx hb hW (kS_in (by decide)) g11 dX3_extend_104 (fun H locs hW => ?_)
                      obtain ⟨σm12, eσm12, hf⟩ := ss_let_some hf
                      rw [← eσm12] at hW
                      refine lv_aload_n hx hb dX3_extend_105 rfl (lv_at hl 1 rfl) ?_
                      refine lv_aload_n hx hb dX3_extend_106 rfl (lv_at hl 2 rfl) ?_
                      refine lv_iload_n hx hb dX3_extend_107 rfl (lv_at hl 3 rfl) ?_
                      refine lv_iconst (v := (1 : Int32)) hx hb dX3_extend_108 (by decide) ?_
                      refine lv_iadd hx hb dX3_extend_109 ?_
                      refine lv_iload hx hb dX3_extend_110 (lv_at hl 0 rfl) ?_
                      obtain ⟨σ13, hf13, hf⟩ := ss_bind hf
                      refine rt_v S (ihd ho1 hf13) (va_cwS 4 hts gX3_extend_X3_extend rfl rfl rfl hd_X3_extend ⟨(by simp only [rm_X3_extend]; omega), (by simp only [rm_X3_extend]; omega)⟩) hW rfl rfl hl.1 (Nat.le_of_ble_eq_true rfl) ⟨Nat.zero_le _, Nat.zero_le _⟩ dX3_extend_112 (fun H locs hW => ?_)
                      refine lv_aload_n hx hb dX3_extend_115 rfl (lv_at hl 1 rfl) ?_
                      refine gf_X3_used hx hb hts hown hW (kS_in (by decide)) iX3 (List.mem_of_getElem? (i := 5) rfl) dX3_extend_116 ?_
                      refine lv_iload hx hb dX3_extend_119 (lv_at hl 5 rfl) ?_
                      refine lv_iconst (v := (0 : Int32)) hx hb dX3_extend_121 (by decide) ?_
                      obtain ⟨g14, hf⟩ := ss_if hf
                      refine rs_z hx hb hW (kS_in (by decide)) g14 (by decide) dX3_extend_122 (fun H locs hW => ?_)
                      exact J123 (sAu σ13 100 0 (upd (sA σ13 100 0) (x27_4).toNatClampNeg (0 : Int32))) _ _ _ hW (lv_sub hl [1, 2, 3, 4, 5] rfl) hf
        exact L27 FU (0 : Int32) σ17_ _ _ _ hW (lv_sub hl [1, 2, 3, 4, 0] rfl) hf
      · rw [if_neg q1] at hf
        exact re_v hx hb hr hlocks hW (Option.some.inj hf) dX3_extend_23
    refine lv_icmp_le (tgt := 17) hx hb dX3_extend_5 (by decide) (fun q15 => ?_) (fun q15 => ?_)
    · rw [if_pos q15] at hf
      exact J17 σ _ _ _ hW (lv_sub hl [0, 1, 2, 3] rfl) hf
    · rw [if_neg q15] at hf
      refine lv_aload_n hx hb dX3_extend_8 rfl (lv_at hl 0 rfl) ?_
      refine lv_aload_n hx hb dX3_extend_9 rfl (lv_at hl 1 rfl) ?_
      refine gf_X4_words hx hb hts hown hW (kS_in ho1) iX4 (List.mem_of_getElem? (i := 2) rfl) dX3_extend_10 ?_
      refine lv_iload_n hx hb dX3_extend_13 rfl (lv_at hl 2 rfl) ?_
      obtain ⟨σ16, hf16, hf⟩ := ss_bind hf
      refine rv_v S (c_X3_keepRow l hAD  hf16) (cwV 2 hts gX3_extend_X3_keepRow rfl rfl rfl hd_X3_keepRow ⟨(by simp only [rm_X3_extend, rm_X3_keepRow]; omega), (by simp only [rm_X3_extend, rm_X3_keepRow]; omega)⟩) hW (kS_in (by decide)) rfl rfl rfl hl.1 (Nat.le_of_ble_eq_true rfl) ⟨Nat.zero_le _, Nat.zero_le _⟩ dX3_extend_14 (fun H locs hW => ?_)
      exact J17 σ16 _ _ _ hW (lv_sub hl [0, 1, 2, 3] rfl) hf
theorem c_X3_extend (l : Launch) {D : va_G} {Y : Nat → ClassId} {A : ss_A} (hAD : AD 0 A) {o1 : Nat} {p2 : Int32} {p3 : Int32} (ho1 : o1 < 4) {σ σ' : ss_M} (hf : f_X3_extend 10 o1 p2 p3 σ = some σ') : Met l yX3_extend wsX3_extend (rm_X3_extend 10) (Pc0 0 D Y A σ [.ref (A 0 2 0), .ref (A 0 3 o1), .int p2, .int p3]) (Qv0 0 D Y A σ') 0 0 (FA 0 A) := c_X3_extend_d l hAD 10 ho1 hf
def f_X3_search_j33 (o0 : Nat) (σ33_ : ss_M) : Option ss_M :=
  Option.bind (f_X3_extend 10 o0 (0 : Int32) (sG σ33_ 3 o0) σ33_) (fun σ1 => some σ1)
def f_X3_search_L7 (k7_33 : ss_M → Option ss_M) : Nat → Int32 → ss_M → Option ss_M
  | 0, _, _ => none
  | n7 + 1, x7_2, σ7_ => if (7 : Int32) ≤ x7_2 then (k7_33 σ7_) else (if gd x7_2 7 = true then (if gd x7_2 7 = true then (ss_let (sAu (sAu σ7_ 2 0 (upd (sA σ7_ 2 0) (x7_2).toNatClampNeg x7_2)) 100 0 (upd (sA (sAu σ7_ 2 0 (upd (sA σ7_ 2 0) (x7_2).toNatClampNeg x7_2)) 100 0) (x7_2).toNatClampNeg (0 : Int32))) (fun σm5 => (f_X3_search_L7 k7_33 n7) (x7_2 + (1 : Int32)) σm5)) else none) else none)
def f_X3_search (o0 : Nat) (σ : ss_M) : Option ss_M :=
  f_X3_search_L7 (f_X3_search_j33 o0) FU (0 : Int32) (sGu σ 2 0 (0 : Int32))
def rm_X3_search : Room := { frames := 48, cells := 0, slots := 0, locals := 1400 }
theorem hd_X3_search : yX3_search.cls = RX3 ∧ yX3_search.cls ≠ "java/lang/invoke/MethodHandle" ∧ yX3_search.cls ≠ "java/lang/invoke/VarHandle" ∧ (parseMethodDescriptor yX3_search.desc).map (fun d => d.parameters.length) = some 1 := by decide +kernel
set_option maxHeartbeats 4000000 in
set_option maxRecDepth 100000 in
theorem c_X3_search (l : Launch) {D : va_G} {Y : Nat → ClassId} {A : ss_A} (hAD : AD 0 A) {o0 : Nat} (ho0 : o0 < 4) {σ σ' : ss_M} (hf : f_X3_search o0 σ = some σ') : Met l yX3_search wsX3_search rm_X3_search (Pc0 0 D Y A σ [.ref (A 0 2 0), .ref (A 0 3 o0)]) (Qv0 0 D Y A σ') 0 0 (FA 0 A) := by
  rw [f_X3_search] at hf
  refine Met0 (cc := cX3_search) (maxL := 3) (ret := none) (own := RX3) (by decide +kernel) rfl hAD rfl (Nat.le_of_ble_eq_true rfl) ?_
  intro p e s m args below meth c S hr hlocks hW ls hl
  obtain ⟨hx, hb, hml, hown, hts⟩ := id S
  have iX3 : ∀ q ∈ wsX30, q ∈ wsX3_search := fun q h => List.mem_cons_of_mem _ (List.mem_append_left _ (List.mem_append_left _ (List.mem_append_right _ (h))))
  have iX4 : ∀ q ∈ wsX40, q ∈ wsX3_search := fun q h => List.mem_cons_of_mem _ (List.mem_append_left _ (List.mem_append_right _ (h)))
  have hl : lv_has ls 3 [(0, .ref (A 0 2 0)), (1, .ref (A 0 3 o0))] := hl
  refine lv_aload_n hx hb dX3_search_0 rfl (lv_at hl 0 rfl) ?_
  refine lv_iconst (v := (0 : Int32)) hx hb dX3_search_1 (by decide) ?_
  refine pf_X3_most hx hb hts hown hW (kS_in (by decide)) iX3 (List.mem_of_getElem? (i := 1) rfl) dX3_search_2 (fun H locs hW => ?_)
  refine lv_iconst (v := (0 : Int32)) hx hb dX3_search_5 (by decide) ?_
  refine lv_istore_n (lv' := [(2, .int (0 : Int32)), (0, .ref (A 0 2 0)), (1, .ref (A 0 3 o0))]) hx hb dX3_search_6 rfl hl (by decide) rfl (fun ls hl => ?_)
  have J33 : ∀ (σ33_ : ss_M) (H : Heap) (locs : List Loc) (ls : Array Slot), sW 0 D Y A σ33_ s s.heap H locs → lv_has ls 3 [(0, .ref (A 0 2 0)), (1, .ref (A 0 3 o0))] → f_X3_search_j33 o0 σ33_ = some σ' → W p l e rm_X3_search s m args below meth c H locs 0 0 (MQ below (Qv0 0 D Y A σ') args s 0 0 (FA 0 A)) (F0 m 33 ls []) := by
    intro σ33_ H locs ls hW hl hf
    rw [f_X3_search_j33] at hf
    refine lv_aload_n hx hb dX3_search_33 rfl (lv_at hl 0 rfl) ?_
    refine lv_aload_n hx hb dX3_search_34 rfl (lv_at hl 1 rfl) ?_
    refine lv_iconst (v := (0 : Int32)) hx hb dX3_search_35 (by decide) ?_
    refine lv_aload_n hx hb dX3_search_36 rfl (lv_at hl 1 rfl) ?_
    refine gf_X4_breath hx hb hts hown hW (kS_in ho0) iX4 (List.mem_of_getElem? (i := 4) rfl) dX3_search_37 ?_
    obtain ⟨σ1, hf1, hf⟩ := ss_bind hf
    refine rt_v S (c_X3_extend l hAD ho0 hf1) (va_cwS 4 hts gX3_search_X3_extend rfl rfl rfl hd_X3_extend ⟨(Nat.le_of_ble_eq_true rfl), (Nat.le_of_ble_eq_true rfl)⟩) hW rfl rfl hl.1 (Nat.le_of_ble_eq_true rfl) ⟨Nat.zero_le _, Nat.zero_le _⟩ dX3_search_40 (fun H locs hW => ?_)
    exact re_v hx hb hr hlocks hW (Option.some.inj hf) dX3_search_43
  have L7 : ∀ (n7 : Nat), ∀ (x7_2 : Int32) (σ7_ : ss_M) (H : Heap) (locs : List Loc) (ls : Array Slot), sW 0 D Y A σ7_ s s.heap H locs → lv_has ls 3 [(0, .ref (A 0 2 0)), (1, .ref (A 0 3 o0)), (2, .int x7_2)] → f_X3_search_L7 (f_X3_search_j33 o0) n7 x7_2 σ7_ = some σ' → W p l e rm_X3_search s m args below meth c H locs 0 0 (MQ below (Qv0 0 D Y A σ') args s 0 0 (FA 0 A)) (F0 m 7 ls []) := by
    intro n7
    induction n7 with
    | zero =>
      intro x7_2 σ7_ H locs ls hW hl hf
      rw [f_X3_search_L7] at hf
      cases hf
    | succ n7 ih7 =>
      intro x7_2 σ7_ H locs ls hW hl hf
      rw [f_X3_search_L7] at hf
      refine lv_iload_n hx hb dX3_search_7 rfl (lv_at hl 2 rfl) ?_
      refine lv_bipush (v := (7 : Int32)) hx hb dX3_search_8 (by decide) ?_
      refine lv_icmp_ge (tgt := 33) hx hb dX3_search_10 (by decide) (fun q2 => ?_) (fun q2 => ?_)
      · rw [if_pos q2] at hf
        exact J33 σ7_ _ _ _ hW (lv_sub hl [0, 1] rfl) hf
      · rw [if_neg q2] at hf
        refine lv_aload_n hx hb dX3_search_13 rfl (lv_at hl 0 rfl) ?_
        refine gf_X3_best hx hb hts hown hW (kS_in (by decide)) iX3 (List.mem_of_getElem? (i := 2) rfl) dX3_search_14 ?_
        refine lv_iload_n hx hb dX3_search_17 rfl (lv_at hl 2 rfl) ?_
        refine lv_iload_n hx hb dX3_search_18 rfl (lv_at hl 2 rfl) ?_
        obtain ⟨g3, hf⟩ := ss_if hf
        refine rs_i hx hb hW (kS_in (by decide)) g3 dX3_search_19 (fun H locs hW => ?_)
        refine lv_aload_n hx hb dX3_search_20 rfl (lv_at hl 0 rfl) ?_
        refine gf_X3_used hx hb hts hown hW (kS_in (by decide)) iX3 (List.mem_of_getElem? (i := 3) rfl) dX3_search_21 ?_
        refine lv_iload_n hx hb dX3_search_24 rfl (lv_at hl 2 rfl) ?_
        refine lv_iconst (v := (0 : Int32)) hx hb dX3_search_25 (by decide) ?_
        obtain ⟨g4, hf⟩ := ss_if hf
        refine rs_z hx hb hW (kS_in (by decide)) g4 (by decide) dX3_search_26 (fun H locs hW => ?_)
        obtain ⟨σm5, eσm5, hf⟩ := ss_let_some hf
        rw [← eσm5] at hW
        refine lv_iinc (v := (x7_2 + (1 : Int32))) (lv' := [(2, .int (x7_2 + (1 : Int32))), (0, .ref (A 0 2 0)), (1, .ref (A 0 3 o0))]) hx hb dX3_search_27 hl (k := 2) rfl rfl (by decide) rfl (fun ls hl => ?_)
        refine lv_goto (tgt := 7) hx hb dX3_search_30 (by decide) ?_
        exact ih7 (x7_2 + (1 : Int32)) σm5 _ _ _ hW (lv_sub hl [1, 2, 0] rfl) hf
  exact L7 FU (0 : Int32) (sGu σ 2 0 (0 : Int32)) _ _ _ hW (lv_sub hl [1, 2, 0] rfl) hf
