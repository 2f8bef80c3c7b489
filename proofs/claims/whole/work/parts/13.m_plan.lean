def f_J7_fill_d0a16_L6 (kc : Nat) (p1 : Int64) : Nat → Int32 → ss_M → Option ss_M
  | 0, _, _ => none
  | n6 + 1, x6_3, σ6_ => if (31 : Int32) ≤ x6_3 then (some σ6_) else (if gd x6_3 31 = true then ((f_J7_fill_d0a16_L6 kc p1 n6) (x6_3 + (1 : Int32)) (sBu σ6_ kc (vp_updL (sB σ6_ kc) (x6_3).toNatClampNeg p1))) else none)
def f_J7_fill_d0a16 (kc : Nat) (p1 : Int64) (σ : ss_M) : Option ss_M :=
  f_J7_fill_d0a16_L6 kc p1 FU (0 : Int32) σ
def rm_J7_fill_d0a16 : Room := { frames := 0, cells := 0, slots := 0, locals := 0 }
theorem hd_J7_fill_d0a16 : yJ7_fill_d0a16.cls ≠ "java/lang/invoke/MethodHandle" ∧ yJ7_fill_d0a16.cls ≠ "java/lang/invoke/VarHandle" ∧ (parseMethodDescriptor yJ7_fill_d0a16.desc).map (fun d => d.parameters.length) = some 2 := by decide +kernel
set_option maxHeartbeats 4000000 in
set_option maxRecDepth 100000 in
theorem c_J7_fill_d0a16 (l : Launch) {D : va_G} {Y : Nat → ClassId} {A : ss_A} (hAD : AD 0 A) {kc : Nat} {p1 : Int64} (hk_kc : (3, kc, 0) ∈ kS 0) {σ σ' : ss_M} (hf : f_J7_fill_d0a16 kc p1 σ = some σ') : Met l yJ7_fill_d0a16 wsJ7_fill_d0a16 rm_J7_fill_d0a16 (Pc0 0 D Y A σ [.ref (A 3 kc 0), .long p1]) (Qv0 0 D Y A σ') 0 0 (FA 0 A) := by
  rw [f_J7_fill_d0a16] at hf
  refine Met0 (cc := cJ7_fill_d0a16) (maxL := 5) (ret := none) (own := RJ7) (by decide +kernel) rfl hAD rfl (Nat.le_of_ble_eq_true rfl) ?_
  intro p e s m args below meth c S hr hlocks hW ls hl
  obtain ⟨hx, hb, hml, hown, hts⟩ := id S
  have hl : lv_has ls 5 [(0, .ref (A 3 kc 0)), (1, .long p1)] := hl
  refine lv_iconst (v := (0 : Int32)) hx hb dJ7_fill_d0a16_0 (by decide) ?_
  refine lv_istore_n (lv' := [(3, .int (0 : Int32)), (0, .ref (A 3 kc 0)), (1, .long p1)]) hx hb dJ7_fill_d0a16_1 rfl hl (by decide) rfl (fun ls hl => ?_)
  refine lv_aload_n hx hb dJ7_fill_d0a16_2 rfl (lv_at hl 1 rfl) ?_
  refine rl_l hx hb hW hk_kc dJ7_fill_d0a16_3 ?_
  refine lv_istore (lv' := [(4, .int (31 : Int32)), (3, .int (0 : Int32)), (0, .ref (A 3 kc 0)), (1, .long p1)]) hx hb dJ7_fill_d0a16_4 hl (by decide) rfl (fun ls hl => ?_)
  have L6 : ∀ (n6 : Nat), ∀ (x6_3 : Int32) (σ6_ : ss_M) (H : Heap) (locs : List Loc) (ls : Array Slot), sW 0 D Y A σ6_ s s.heap H locs → lv_has ls 5 [(0, .ref (A 3 kc 0)), (1, .long p1), (3, .int x6_3), (4, .int (31 : Int32))] → f_J7_fill_d0a16_L6 kc p1 n6 x6_3 σ6_ = some σ' → W p l e rm_J7_fill_d0a16 s m args below meth c H locs 0 0 (MQ below (Qv0 0 D Y A σ') args s 0 0 (FA 0 A)) (F0 m 6 ls []) := by
    intro n6
    induction n6 with
    | zero =>
      intro x6_3 σ6_ H locs ls hW hl hf
      rw [f_J7_fill_d0a16_L6] at hf
      cases hf
    | succ n6 ih6 =>
      intro x6_3 σ6_ H locs ls hW hl hf
      rw [f_J7_fill_d0a16_L6] at hf
      refine lv_iload_n hx hb dJ7_fill_d0a16_6 rfl (lv_at hl 2 rfl) ?_
      refine lv_iload hx hb dJ7_fill_d0a16_7 (lv_at hl 3 rfl) ?_
      refine lv_icmp_ge (tgt := 22) hx hb dJ7_fill_d0a16_9 (by decide) (fun q1 => ?_) (fun q1 => ?_)
      · rw [if_pos q1] at hf
        exact re_v hx hb hr hlocks hW (Option.some.inj hf) dJ7_fill_d0a16_22
      · rw [if_neg q1] at hf
        refine lv_aload_n hx hb dJ7_fill_d0a16_12 rfl (lv_at hl 0 rfl) ?_
        refine lv_iload_n hx hb dJ7_fill_d0a16_13 rfl (lv_at hl 2 rfl) ?_
        refine lv_lload_n hx hb dJ7_fill_d0a16_14 rfl (lv_at hl 1 rfl) ?_
        obtain ⟨g2, hf⟩ := ss_if hf
        refine rs_l hx hb hW hk_kc g2 dJ7_fill_d0a16_15 (fun H locs hW => ?_)
        refine lv_iinc (v := (x6_3 + (1 : Int32))) (lv' := [(3, .int (x6_3 + (1 : Int32))), (0, .ref (A 3 kc 0)), (1, .long p1), (4, .int (31 : Int32))]) hx hb dJ7_fill_d0a16_16 hl (k := 2) rfl rfl (by decide) rfl (fun ls hl => ?_)
        refine lv_goto (tgt := 6) hx hb dJ7_fill_d0a16_19 (by decide) ?_
        exact ih6 (x6_3 + (1 : Int32)) (sBu σ6_ kc (vp_updL (sB σ6_ kc) (x6_3).toNatClampNeg p1)) _ _ _ hW (lv_sub hl [1, 2, 0, 3] rfl) hf
  exact L6 FU (0 : Int32) σ _ _ _ hW (lv_sub hl [2, 3, 1, 0] rfl) hf
def f_J7_fill_53178_L5 (kc : Nat) (ko : Nat) (p1 : Int32) : Nat → Int32 → Int32 → ss_M → Option ss_M
  | 0, _, _, _ => none
  | n5 + 1, x5_2, x5_3, σ5_ => if x5_3 ≤ x5_2 then (some σ5_) else (if gd x5_2 (alen kc) = true then ((f_J7_fill_53178_L5 kc ko p1 n5) (x5_2 + (1 : Int32)) x5_3 (sAu σ5_ kc ko (upd (sA σ5_ kc ko) (x5_2).toNatClampNeg p1))) else none)
def f_J7_fill_53178 (kc : Nat) (ko : Nat) (p1 : Int32) (σ : ss_M) : Option ss_M :=
  f_J7_fill_53178_L5 kc ko p1 FU (0 : Int32) (Int32.ofNat (alen kc)) σ
def rm_J7_fill_53178 : Room := { frames := 0, cells := 0, slots := 0, locals := 0 }
theorem hd_J7_fill_53178 : yJ7_fill_53178.cls ≠ "java/lang/invoke/MethodHandle" ∧ yJ7_fill_53178.cls ≠ "java/lang/invoke/VarHandle" ∧ (parseMethodDescriptor yJ7_fill_53178.desc).map (fun d => d.parameters.length) = some 2 := by decide +kernel
set_option maxHeartbeats 4000000 in
set_option maxRecDepth 100000 in
theorem c_J7_fill_53178 (l : Launch) {D : va_G} {Y : Nat → ClassId} {A : ss_A} (hAD : AD 0 A) {kc ko : Nat} {p1 : Int32} (hk_kc : (1, kc, ko) ∈ kS 0) {σ σ' : ss_M} (hf : f_J7_fill_53178 kc ko p1 σ = some σ') : Met l yJ7_fill_53178 wsJ7_fill_53178 rm_J7_fill_53178 (Pc0 0 D Y A σ [.ref (A 1 kc ko), .int p1]) (Qv0 0 D Y A σ') 0 0 (FA 0 A) := by
  rw [f_J7_fill_53178] at hf
  refine Met0 (cc := cJ7_fill_53178) (maxL := 4) (ret := none) (own := RJ7) (by decide +kernel) rfl hAD rfl (Nat.le_of_ble_eq_true rfl) ?_
  intro p e s m args below meth c S hr hlocks hW ls hl
  obtain ⟨hx, hb, hml, hown, hts⟩ := id S
  have hl : lv_has ls 4 [(0, .ref (A 1 kc ko)), (1, .int p1)] := hl
  refine lv_iconst (v := (0 : Int32)) hx hb dJ7_fill_53178_0 (by decide) ?_
  refine lv_istore_n (lv' := [(2, .int (0 : Int32)), (0, .ref (A 1 kc ko)), (1, .int p1)]) hx hb dJ7_fill_53178_1 rfl hl (by decide) rfl (fun ls hl => ?_)
  refine lv_aload_n hx hb dJ7_fill_53178_2 rfl (lv_at hl 1 rfl) ?_
  refine rl_i hx hb hW hk_kc rfl dJ7_fill_53178_3 ?_
  refine lv_istore_n (lv' := [(3, .int (Int32.ofNat (alen kc))), (2, .int (0 : Int32)), (0, .ref (A 1 kc ko)), (1, .int p1)]) hx hb dJ7_fill_53178_4 rfl hl (by decide) rfl (fun ls hl => ?_)
  have L5 : ∀ (n5 : Nat), ∀ (x5_2 : Int32) (x5_3 : Int32) (σ5_ : ss_M) (H : Heap) (locs : List Loc) (ls : Array Slot), sW 0 D Y A σ5_ s s.heap H locs → lv_has ls 4 [(0, .ref (A 1 kc ko)), (1, .int p1), (2, .int x5_2), (3, .int x5_3)] → f_J7_fill_53178_L5 kc ko p1 n5 x5_2 x5_3 σ5_ = some σ' → W p l e rm_J7_fill_53178 s m args below meth c H locs 0 0 (MQ below (Qv0 0 D Y A σ') args s 0 0 (FA 0 A)) (F0 m 5 ls []) := by
    intro n5
    induction n5 with
    | zero =>
      intro x5_2 x5_3 σ5_ H locs ls hW hl hf
      rw [f_J7_fill_53178_L5] at hf
      cases hf
    | succ n5 ih5 =>
      intro x5_2 x5_3 σ5_ H locs ls hW hl hf
      rw [f_J7_fill_53178_L5] at hf
      refine lv_iload_n hx hb dJ7_fill_53178_5 rfl (lv_at hl 2 rfl) ?_
      refine lv_iload_n hx hb dJ7_fill_53178_6 rfl (lv_at hl 3 rfl) ?_
      refine lv_icmp_ge (tgt := 20) hx hb dJ7_fill_53178_7 (by decide) (fun q1 => ?_) (fun q1 => ?_)
      · rw [if_pos q1] at hf
        exact re_v hx hb hr hlocks hW (Option.some.inj hf) dJ7_fill_53178_20
      · rw [if_neg q1] at hf
        refine lv_aload_n hx hb dJ7_fill_53178_10 rfl (lv_at hl 0 rfl) ?_
        refine lv_iload_n hx hb dJ7_fill_53178_11 rfl (lv_at hl 2 rfl) ?_
        refine lv_iload_n hx hb dJ7_fill_53178_12 rfl (lv_at hl 1 rfl) ?_
        obtain ⟨g2, hf⟩ := ss_if hf
        refine rs_i hx hb hW hk_kc g2 dJ7_fill_53178_13 (fun H locs hW => ?_)
        refine lv_iinc (v := (x5_2 + (1 : Int32))) (lv' := [(2, .int (x5_2 + (1 : Int32))), (0, .ref (A 1 kc ko)), (1, .int p1), (3, .int x5_3)]) hx hb dJ7_fill_53178_14 hl (k := 2) rfl rfl (by decide) rfl (fun ls hl => ?_)
        refine lv_goto (tgt := 5) hx hb dJ7_fill_53178_17 (by decide) ?_
        exact ih5 (x5_2 + (1 : Int32)) x5_3 (sAu σ5_ kc ko (upd (sA σ5_ kc ko) (x5_2).toNatClampNeg p1)) _ _ _ hW (lv_sub hl [1, 2, 0, 3] rfl) hf
  exact L5 FU (0 : Int32) (Int32.ofNat (alen kc)) σ _ _ _ hW (lv_sub hl [2, 3, 1, 0] rfl) hf
def f_X5_choose_j212 (x27_8 : Int32) (kb27 : Int32 → ss_M → Option ss_M) (σ212_ : ss_M) : Option ss_M :=
  kb27 (x27_8 + (1 : Int32)) σ212_
def f_X5_choose_j182 (p1 : Int32) (p2 : Int32) (x27_8 : Int32) (kb27 : Int32 → ss_M → Option ss_M) (x108_11 : Int32) (x155_12 : Int32) (σ182_ : ss_M) : Option ss_M :=
  if gd p1 13 = true then (if gd p2 31 = true then (if gd p1 13 = true then (if gd p2 31 = true then (ss_let (sAu (sAu σ182_ 6 ((p1).toNatClampNeg) (upd (sA σ182_ 6 ((p1).toNatClampNeg)) (p2).toNatClampNeg x108_11)) 7 ((p1).toNatClampNeg) (upd (sA (sAu σ182_ 6 ((p1).toNatClampNeg) (upd (sA σ182_ 6 ((p1).toNatClampNeg)) (p2).toNatClampNeg x108_11)) 7 ((p1).toNatClampNeg)) (p2).toNatClampNeg x155_12)) (fun σm18 => if gd p1 12 = true then (if gd p2 31 = true then (f_X5_choose_j212 x27_8 kb27 (sAu σm18 8 ((p1).toNatClampNeg) (upd (sA σm18 8 ((p1).toNatClampNeg)) (p2).toNatClampNeg x27_8))) else none) else none)) else none) else none) else none) else none
def f_X5_choose_j155 (p1 : Int32) (p2 : Int32) (p4 : Int32) (x27_8 : Int32) (kb27 : Int32 → ss_M → Option ss_M) (s47_0 : Int32) (x108_11 : Int32) (x155_12 : Int32) (s155_0 : Int32) (σ155_ : ss_M) : Option ss_M :=
  if (1000000 : Int32) ≤ x108_11 then (f_X5_choose_j212 x27_8 kb27 σ155_) else (if s155_0 = (0 : Int32) then (f_X5_choose_j212 x27_8 kb27 σ155_) else (if p4 = (0 : Int32) then (f_X5_choose_j182 p1 p2 x27_8 kb27 x108_11 x155_12 σ155_) else (ss_bd (f_X1_ends s47_0 σ155_) (fun r22 σ22 => if r22 = (0 : Int32) then (f_X5_choose_j212 x27_8 kb27 σ22) else (f_X5_choose_j182 p1 p2 x27_8 kb27 x108_11 x155_12 σ22)))))
def f_X5_choose_j150 (p1 : Int32) (p2 : Int32) (p4 : Int32) (x27_8 : Int32) (kb27 : Int32 → ss_M → Option ss_M) (s47_0 : Int32) (x108_11 : Int32) (x150_12 : Int32) (σ150_ : ss_M) : Option ss_M :=
  f_X5_choose_j155 p1 p2 p4 x27_8 kb27 s47_0 x108_11 x150_12 (1 : Int32) σ150_
def f_X5_choose_j154 (p1 : Int32) (p2 : Int32) (p4 : Int32) (x27_8 : Int32) (kb27 : Int32 → ss_M → Option ss_M) (s47_0 : Int32) (x108_11 : Int32) (x154_12 : Int32) (σ154_ : ss_M) : Option ss_M :=
  f_X5_choose_j155 p1 p2 p4 x27_8 kb27 s47_0 x108_11 x154_12 (0 : Int32) σ154_
def f_X5_choose_j108 (p1 : Int32) (p2 : Int32) (p4 : Int32) (x27_8 : Int32) (kb27 : Int32 → ss_M → Option ss_M) (s47_0 : Int32) (r4 : Int32) (σ7 : ss_M) (x108_11 : Int32) (s108_0 : Int32) (σ108_ : ss_M) : Option ss_M :=
  if gd p1 13 = true then (if gd p2 31 = true then (if x108_11 < (sA σ108_ 6 ((p1).toNatClampNeg) (p2).toNatClampNeg) then (f_X5_choose_j150 p1 p2 p4 x27_8 kb27 s47_0 x108_11 ((sA σ7 7 (((p1 + (1 : Int32))).toNatClampNeg) (r4).toNatClampNeg) + s108_0) σ108_) else (if gd p1 13 = true then (if gd p2 31 = true then (if x108_11 = (sA σ108_ 6 ((p1).toNatClampNeg) (p2).toNatClampNeg) then (if gd p1 13 = true then (if gd p2 31 = true then (if (sA σ108_ 7 ((p1).toNatClampNeg) (p2).toNatClampNeg) ≤ ((sA σ7 7 (((p1 + (1 : Int32))).toNatClampNeg) (r4).toNatClampNeg) + s108_0) then (f_X5_choose_j154 p1 p2 p4 x27_8 kb27 s47_0 x108_11 ((sA σ7 7 (((p1 + (1 : Int32))).toNatClampNeg) (r4).toNatClampNeg) + s108_0) σ108_) else (f_X5_choose_j150 p1 p2 p4 x27_8 kb27 s47_0 x108_11 ((sA σ7 7 (((p1 + (1 : Int32))).toNatClampNeg) (r4).toNatClampNeg) + s108_0) σ108_)) else none) else none) else (f_X5_choose_j154 p1 p2 p4 x27_8 kb27 s47_0 x108_11 ((sA σ7 7 (((p1 + (1 : Int32))).toNatClampNeg) (r4).toNatClampNeg) + s108_0) σ108_)) else none) else none)) else none) else none
def f_X5_choose_j47 (o0 : Nat) (p1 : Int32) (p2 : Int32) (p3 : Int32) (p4 : Int32) (x27_8 : Int32) (kb27 : Int32 → ss_M → Option ss_M) (s47_0 : Int32) (σ47_ : ss_M) : Option ss_M :=
  if gd p1 12 = true then (ss_bd (f_X1_breathBehind s47_0 (p2 - (sA σ47_ 4 o0 (p1).toNatClampNeg)) p3 σ47_) (fun r4 σ4 => if gd (p1 + (1 : Int32)) 13 = true then (if gd r4 31 = true then (ss_bd (f_X4_costOf o0 x27_8 σ4) (fun r7 σ7 => if gd (p1 + (1 : Int32)) 13 = true then (if gd r4 31 = true then (if x27_8 = (-1 : Int32) then (f_X5_choose_j108 p1 p2 p4 x27_8 kb27 s47_0 r4 σ7 ((sA σ4 6 (((p1 + (1 : Int32))).toNatClampNeg) (r4).toNatClampNeg) + r7) (0 : Int32) σ7) else (f_X5_choose_j108 p1 p2 p4 x27_8 kb27 s47_0 r4 σ7 ((sA σ4 6 (((p1 + (1 : Int32))).toNatClampNeg) (r4).toNatClampNeg) + r7) (1 : Int32) σ7)) else none) else none)) else none) else none)) else none
def f_X5_choose_L27 (o0 : Nat) (p1 : Int32) (p2 : Int32) (p3 : Int32) (p4 : Int32) (x22_6 : Int32) (s22_0 : Int32) : Nat → Int32 → ss_M → Option ss_M
  | 0, _, _ => none
  | n27 + 1, x27_8, σ27_ => if s22_0 < x27_8 then (some σ27_) else (if x27_8 = (-1 : Int32) then (f_X5_choose_j47 o0 p1 p2 p3 p4 x27_8 (f_X5_choose_L27 o0 p1 p2 p3 p4 x22_6 s22_0 n27) x22_6 σ27_) else (f_X5_choose_j47 o0 p1 p2 p3 p4 x27_8 (f_X5_choose_L27 o0 p1 p2 p3 p4 x22_6 s22_0 n27) x27_8 σ27_))
def f_X5_choose_j22 (o0 : Nat) (p1 : Int32) (p2 : Int32) (p3 : Int32) (p4 : Int32) (x22_6 : Int32) (s22_0 : Int32) (σ22_ : ss_M) : Option ss_M :=
  f_X5_choose_L27 o0 p1 p2 p3 p4 x22_6 s22_0 FU (-1 : Int32) σ22_
def f_X5_choose (o0 : Nat) (p1 : Int32) (p2 : Int32) (p3 : Int32) (p4 : Int32) (σ : ss_M) : Option ss_M :=
  if gd p1 12 = true then (if (sA σ 0 o0 (p1).toNatClampNeg) = (-1 : Int32) then (f_X5_choose_j22 o0 p1 p2 p3 p4 (sA σ 0 o0 (p1).toNatClampNeg) (5 : Int32) σ) else (f_X5_choose_j22 o0 p1 p2 p3 p4 (sA σ 0 o0 (p1).toNatClampNeg) (-1 : Int32) σ)) else none
def rm_X5_choose : Room := { frames := 4, cells := 0, slots := 0, locals := 200 }
theorem hd_X5_choose : yX5_choose.cls = RX5 ∧ yX5_choose.cls ≠ "java/lang/invoke/MethodHandle" ∧ yX5_choose.cls ≠ "java/lang/invoke/VarHandle" ∧ (parseMethodDescriptor yX5_choose.desc).map (fun d => d.parameters.length) = some 5 := by decide +kernel
set_option maxHeartbeats 4000000 in
set_option maxRecDepth 100000 in
theorem c_X5_choose (l : Launch) {D : va_G} {Y : Nat → ClassId} {A : ss_A} (hAD : AD 0 A) {o0 : Nat} {p1 : Int32} {p2 : Int32} {p3 : Int32} {p4 : Int32} (ho0 : o0 < 4) {σ σ' : ss_M} (hf : f_X5_choose o0 p1 p2 p3 p4 σ = some σ') : Met l yX5_choose wsX5_choose rm_X5_choose (Pc0 0 D Y A σ [.ref (A 0 4 0), .ref (A 0 3 o0), .int p1, .int p2, .int p3, .int p4]) (Qv0 0 D Y A σ') 0 0 (FA 0 A) := by
  rw [f_X5_choose] at hf
  refine Met0 (cc := cX5_choose) (maxL := 14) (ret := none) (own := RX5) (by decide +kernel) rfl hAD rfl (Nat.le_of_ble_eq_true rfl) ?_
  intro p e s m args below meth c S hr hlocks hW ls hl
  obtain ⟨hx, hb, hml, hown, hts⟩ := id S
  have iX4 : ∀ q ∈ wsX40, q ∈ wsX5_choose := fun q h => List.mem_cons_of_mem _ (List.mem_append_left _ (List.mem_append_left _ (List.mem_append_right _ (h))))
  have iX2 : ∀ q ∈ wsX20, q ∈ wsX5_choose := fun q h => List.mem_cons_of_mem _ (List.mem_append_left _ (List.mem_append_right _ (h)))
  have iX5 : ∀ q ∈ wsX50, q ∈ wsX5_choose := fun q h => List.mem_cons_of_mem _ (List.mem_append_right _ (h))
  have hl : lv_has ls 14 [(0, .ref (A 0 4 0)), (1, .ref (A 0 3 o0)), (2, .int p1), (3, .int p2), (4, .int p3), (5, .int p4)] := hl
  refine lv_aload_n hx hb dX5_choose_0 rfl (lv_at hl 1 rfl) ?_
  refine gf_X4_marks hx hb hts hown hW (kS_in ho0) iX4 (List.mem_of_getElem? (i := 1) rfl) dX5_choose_1 ?_
  refine gf_X2_kinds hx hb hts hown hW (kS_in (Nat.lt_of_lt_of_le ho0 (by decide))) iX2 (List.mem_of_getElem? (i := 2) rfl) dX5_choose_4 ?_
  refine lv_iload_n hx hb dX5_choose_7 rfl (lv_at hl 2 rfl) ?_
  obtain ⟨g1, hf⟩ := ss_if hf
  refine ra_i hx hb hW (kS_in (Nat.lt_of_lt_of_le ho0 (by decide))) g1 dX5_choose_8 ?_
  refine lv_istore (lv' := [(6, .int (sA σ 0 o0 (p1).toNatClampNeg)), (0, .ref (A 0 4 0)), (1, .ref (A 0 3 o0)), (2, .int p1), (3, .int p2), (4, .int p3), (5, .int p4)]) hx hb dX5_choose_9 hl (by decide) rfl (fun ls hl => ?_)
  refine lv_iload hx hb dX5_choose_11 (lv_at hl 0 rfl) ?_
  refine lv_iconst (v := (-1 : Int32)) hx hb dX5_choose_13 (by decide) ?_
  have J22 : ∀ (x22_6 : Int32) (s22_0 : Int32) (σ22_ : ss_M) (H : Heap) (locs : List Loc) (ls : Array Slot), sW 0 D Y A σ22_ s s.heap H locs → lv_has ls 14 [(0, .ref (A 0 4 0)), (1, .ref (A 0 3 o0)), (2, .int p1), (3, .int p2), (4, .int p3), (5, .int p4), (6, .int x22_6)] → f_X5_choose_j22 o0 p1 p2 p3 p4 x22_6 s22_0 σ22_ = some σ' → W p l e rm_X5_choose s m args below meth c H locs 0 0 (MQ below (Qv0 0 D Y A σ') args s 0 0 (FA 0 A)) (F0 m 22 ls [.int s22_0]) := by
    intro x22_6 s22_0 σ22_ H locs ls hW hl hf
    rw [f_X5_choose_j22] at hf
    refine lv_istore (lv' := [(7, .int s22_0), (0, .ref (A 0 4 0)), (1, .ref (A 0 3 o0)), (2, .int p1), (3, .int p2), (4, .int p3), (5, .int p4), (6, .int x22_6)]) hx hb dX5_choose_22 hl (by decide) rfl (fun ls hl => ?_)
    refine lv_iconst (v := (-1 : Int32)) hx hb dX5_choose_24 (by decide) ?_
    refine lv_istore (lv' := [(8, .int (-1 : Int32)), (7, .int s22_0), (0, .ref (A 0 4 0)), (1, .ref (A 0 3 o0)), (2, .int p1), (3, .int p2), (4, .int p3), (5, .int p4), (6, .int x22_6)]) hx hb dX5_choose_25 hl (by decide) rfl (fun ls hl => ?_)
    have L27 : ∀ (n27 : Nat), ∀ (x27_8 : Int32) (σ27_ : ss_M) (H : Heap) (locs : List Loc) (ls : Array Slot), sW 0 D Y A σ27_ s s.heap H locs → lv_has ls 14 [(0, .ref (A 0 4 0)), (1, .ref (A 0 3 o0)), (2, .int p1), (3, .int p2), (4, .int p3), (5, .int p4), (6, .int x22_6), (7, .int s22_0), (8, .int x27_8)] → f_X5_choose_L27 o0 p1 p2 p3 p4 x22_6 s22_0 n27 x27_8 σ27_ = some σ' → W p l e rm_X5_choose s m args below meth c H locs 0 0 (MQ below (Qv0 0 D Y A σ') args s 0 0 (FA 0 A)) (F0 m 27 ls []) := by
      intro n27
      induction n27 with
      | zero =>
        intro x27_8 σ27_ H locs ls hW hl hf
        rw [f_X5_choose_L27] at hf
        cases hf
      | succ n27 ih27 =>
        intro x27_8 σ27_ H locs ls hW hl hf
        rw [f_X5_choose_L27] at hf
        refine lv_iload hx hb dX5_choose_27 (lv_at hl 8 rfl) ?_
        refine lv_iload hx hb dX5_choose_29 (lv_at hl 7 rfl) ?_
        refine lv_icmp_gt (tgt := 218) hx hb dX5_choose_31 (by decide) (fun q2 => ?_) (fun q2 => ?_)
        · rw [if_pos q2] at hf
          exact re_v hx hb hr hlocks hW (Option.some.inj hf) dX5_choose_218
        · rw [if_neg q2] at hf
          refine lv_iload hx hb dX5_choose_34 (lv_at hl 8 rfl) ?_
          refine lv_iconst (v := (-1 : Int32)) hx hb dX5_choose_36 (by decide) ?_
          have J47 : ∀ (s47_0 : Int32) (σ47_ : ss_M) (H : Heap) (locs : List Loc) (ls : Array Slot), sW 0 D Y A σ47_ s s.heap H locs → lv_has ls 14 [(0, .ref (A 0 4 0)), (1, .ref (A 0 3 o0)), (2, .int p1), (3, .int p2), (4, .int p3), (5, .int p4), (6, .int x22_6), (7, .int s22_0), (8, .int x27_8)] → f_X5_choose_j47 o0 p1 p2 p3 p4 x27_8 (f_X5_choose_L27 o0 p1 p2 p3 p4 x22_6 s22_0 n27) s47_0 σ47_ = some σ' → W p l e rm_X5_choose s m args below meth c H locs 0 0 (MQ below (Qv0 0 D Y A σ') args s 0 0 (FA 0 A)) (F0 m 47 ls [.int s47_0]) := by
            intro s47_0 σ47_ H locs ls hW hl hf
            rw [f_X5_choose_j47] at hf
            refine lv_istore (lv' := [(9, .int s47_0), (0, .ref (A 0 4 0)), (1, .ref (A 0 3 o0)), (2, .int p1), (3, .int p2), (4, .int p3), (5, .int p4), (6, .int x22_6), (7, .int s22_0), (8, .int x27_8)]) hx hb dX5_choose_47 hl (by decide) rfl (fun ls hl => ?_)
            refine lv_iload hx hb dX5_choose_49 (lv_at hl 0 rfl) ?_
            refine lv_iload_n hx hb dX5_choose_51 rfl (lv_at hl 4 rfl) ?_
            refine lv_aload_n hx hb dX5_choose_52 rfl (lv_at hl 2 rfl) ?_
            refine gf_X4_lengths hx hb hts hown hW (kS_in ho0) iX4 (List.mem_of_getElem? (i := 3) rfl) dX5_choose_53 ?_
            refine lv_iload_n hx hb dX5_choose_56 rfl (lv_at hl 3 rfl) ?_
            obtain ⟨g3, hf⟩ := ss_if hf
            refine ra_i hx hb hW (kS_in ho0) g3 dX5_choose_57 ?_
            refine lv_isub hx hb dX5_choose_58 ?_
            refine lv_iload hx hb dX5_choose_59 (lv_at hl 5 rfl) ?_
            obtain ⟨r4, σ4, hf4, hf⟩ := ss_bd_some hf
            refine rt_i S (c_X1_breathBehind l hAD  hf4) (va_cwS 3 hts gX5_choose_X1_breathBehind rfl rfl rfl hd_X1_breathBehind ⟨(Nat.le_of_ble_eq_true rfl), (Nat.le_of_ble_eq_true rfl)⟩) hW rfl rfl hl.1 (Nat.le_of_ble_eq_true rfl) ⟨Nat.zero_le _, Nat.zero_le _⟩ dX5_choose_61 (fun H locs hW => ?_)
            refine lv_istore (lv' := [(10, .int r4), (9, .int s47_0), (0, .ref (A 0 4 0)), (1, .ref (A 0 3 o0)), (2, .int p1), (3, .int p2), (4, .int p3), (5, .int p4), (6, .int x22_6), (7, .int s22_0), (8, .int x27_8)]) hx hb dX5_choose_64 hl (by decide) rfl (fun ls hl => ?_)
            refine lv_aload_n hx hb dX5_choose_66 rfl (lv_at hl 2 rfl) ?_
            refine gf_X5_costs hx hb hts hown hW (kS_in (by decide)) iX5 (List.mem_of_getElem? (i := 4) rfl) dX5_choose_67 ?_
            refine lv_iload_n hx hb dX5_choose_70 rfl (lv_at hl 4 rfl) ?_
            refine lv_iconst (v := (1 : Int32)) hx hb dX5_choose_71 (by decide) ?_
            refine lv_iadd hx hb dX5_choose_72 ?_
            obtain ⟨g5, hf⟩ := ss_if hf
            refine ra_g2 hx hb hW (kS_in (by decide)) g5 dX5_choose_73 ?_
            refine lv_iload hx hb dX5_choose_74 (lv_at hl 0 rfl) ?_
            obtain ⟨g6, hf⟩ := ss_if hf
            refine ra_i hx hb hW (kS_in (gd_lt g5)) g6 dX5_choose_76 ?_
            refine lv_aload_n hx hb dX5_choose_77 rfl (lv_at hl 3 rfl) ?_
            refine lv_iload hx hb dX5_choose_78 (lv_at hl 10 rfl) ?_
            obtain ⟨r7, σ7, hf7, hf⟩ := ss_bd_some hf
            refine rv_i S (c_X4_costOf l hAD ho0 hf7) (cwV 1 hts gX5_choose_X4_costOf rfl rfl rfl hd_X4_costOf ⟨(Nat.le_of_ble_eq_true rfl), (Nat.le_of_ble_eq_true rfl)⟩) hW (kS_in ho0) rfl rfl rfl hl.1 (Nat.le_of_ble_eq_true rfl) ⟨Nat.zero_le _, Nat.zero_le _⟩ dX5_choose_80 (fun H locs hW => ?_)
            refine lv_iadd hx hb dX5_choose_83 ?_
            refine lv_istore (lv' := [(11, .int ((sA σ4 6 (((p1 + (1 : Int32))).toNatClampNeg) (r4).toNatClampNeg) + r7)), (10, .int r4), (9, .int s47_0), (0, .ref (A 0 4 0)), (1, .ref (A 0 3 o0)), (2, .int p1), (3, .int p2), (4, .int p3), (5, .int p4), (6, .int x22_6), (7, .int s22_0), (8, .int x27_8)]) hx hb dX5_choose_84 hl (by decide) rfl (fun ls hl => ?_)
            refine lv_aload_n hx hb dX5_choose_86 rfl (lv_at hl 3 rfl) ?_
            refine gf_X5_fewest hx hb hts hown hW (kS_in (by decide)) iX5 (List.mem_of_getElem? (i := 5) rfl) dX5_choose_87 ?_
            refine lv_iload_n hx hb dX5_choose_90 rfl (lv_at hl 5 rfl) ?_
            refine lv_iconst (v := (1 : Int32)) hx hb dX5_choose_91 (by decide) ?_
            refine lv_iadd hx hb dX5_choose_92 ?_
            obtain ⟨g8, hf⟩ := ss_if hf
            refine ra_g3 hx hb hW (kS_in (by decide)) g8 dX5_choose_93 ?_
            refine lv_iload hx hb dX5_choose_94 (lv_at hl 1 rfl) ?_
            obtain ⟨g9, hf⟩ := ss_if hf
            refine ra_i hx hb hW (kS_in (gd_lt g8)) g9 dX5_choose_96 ?_
            refine lv_iload hx hb dX5_choose_97 (lv_at hl 11 rfl) ?_
            refine lv_iconst (v := (-1 : Int32)) hx hb dX5_choose_99 (by decide) ?_
            have J108 : ∀ (x108_11 : Int32) (s108_0 : Int32) (σ108_ : ss_M) (H : Heap) (locs : List Loc) (ls : Array Slot), sW 0 D Y A σ108_ s s.heap H locs → lv_has ls 14 [(0, .ref (A 0 4 0)), (1, .ref (A 0 3 o0)), (2, .int p1), (3, .int p2), (4, .int p3), (5, .int p4), (6, .int x22_6), (7, .int s22_0), (8, .int x27_8), (9, .int s47_0), (11, .int x108_11)] → f_X5_choose_j108 p1 p2 p4 x27_8 (f_X5_choose_L27 o0 p1 p2 p3 p4 x22_6 s22_0 n27) s47_0 r4 σ7 x108_11 s108_0 σ108_ = some σ' → W p l e rm_X5_choose s m args below meth c H locs 0 0 (MQ below (Qv0 0 D Y A σ') args s 0 0 (FA 0 A)) (F0 m 108 ls [.int s108_0, .int (sA σ7 7 (((p1 + (1 : Int32))).toNatClampNeg) (r4).toNatClampNeg)]) := by
              intro x108_11 s108_0 σ108_ H locs ls hW hl hf
              rw [f_X5_choose_j108] at hf
              refine lv_iadd hx hb dX5_choose_108 ?_
              refine lv_istore (lv' := [(12, .int ((sA σ7 7 (((p1 + (1 : Int32))).toNatClampNeg) (r4).toNatClampNeg) + s108_0)), (0, .ref (A 0 4 0)), (1, .ref (A 0 3 o0)), (2, .int p1), (3, .int p2), (4, .int p3), (5, .int p4), (6, .int x22_6), (7, .int s22_0), (8, .int x27_8), (9, .int s47_0), (11, .int x108_11)]) hx hb dX5_choose_109 hl (by decide) rfl (fun ls hl => ?_)
              refine lv_iload hx hb dX5_choose_111 (lv_at hl 11 rfl) ?_
              refine lv_aload_n hx hb dX5_choose_113 rfl (lv_at hl 1 rfl) ?_
              refine gf_X5_costs hx hb hts hown hW (kS_in (by decide)) iX5 (List.mem_of_getElem? (i := 4) rfl) dX5_choose_114 ?_
              refine lv_iload_n hx hb dX5_choose_117 rfl (lv_at hl 3 rfl) ?_
              obtain ⟨g10, hf⟩ := ss_if hf
              refine ra_g2 hx hb hW (kS_in (by decide)) g10 dX5_choose_118 ?_
              refine lv_iload_n hx hb dX5_choose_119 rfl (lv_at hl 4 rfl) ?_
              obtain ⟨g11, hf⟩ := ss_if hf
              refine ra_i hx hb hW (kS_in (gd_lt g10)) g11 dX5_choose_120 ?_
              have J155 : ∀ (x155_12 : Int32) (s155_0 : Int32) (σ155_ : ss_M) (H : Heap) (locs : List Loc) (ls : Array Slot), sW 0 D Y A σ155_ s s.heap H locs → lv_has ls 14 [(0, .ref (A 0 4 0)), (1, .ref (A 0 3 o0)), (2, .int p1), (3, .int p2), (4, .int p3), (5, .int p4), (6, .int x22_6), (7, .int s22_0), (8, .int x27_8), (9, .int s47_0), (11, .int x108_11), (12, .int x155_12)] → f_X5_choose_j155 p1 p2 p4 x27_8 (f_X5_choose_L27 o0 p1 p2 p3 p4 x22_6 s22_0 n27) s47_0 x108_11 x155_12 s155_0 σ155_ = some σ' → W p l e rm_X5_choose s m args below meth c H locs 0 0 (MQ below (Qv0 0 D Y A σ') args s 0 0 (FA 0 A)) (F0 m 155 ls [.int s155_0]) := by
                intro x155_12 s155_0 σ155_ H locs ls hW hl hf
                rw [f_X5_choose_j155] at hf
                refine lv_istore (lv' := [(13, .int s155_0), (0, .ref (A 0 4 0)), (1, .ref (A 0 3 o0)), (2, .int p1), (3, .int p2), (4, .int p3), (5, .int p4), (6, .int x22_6), (7, .int s22_0), (8, .int x27_8), (9, .int s47_0), (11, .int x108_11), (12, .int x155_12)]) hx hb dX5_choose_155 hl (by decide) rfl (fun ls hl => ?_)
                refine lv_iload hx hb dX5_choose_157 (lv_at hl 11 rfl) ?_
                refine lv_ldc hx hb hown (hts _ (List.mem_of_getElem? (i := 6) rfl)) dX5_choose_159 ?_
                have J212 : ∀ (σ212_ : ss_M) (H : Heap) (locs : List Loc) (ls : Array Slot), sW 0 D Y A σ212_ s s.heap H locs → lv_has ls 14 [(0, .ref (A 0 4 0)), (1, .ref (A 0 3 o0)), (2, .int p1), (3, .int p2), (4, .int p3), (5, .int p4), (6, .int x22_6), (7, .int s22_0), (8, .int x27_8)] → f_X5_choose_j212 x27_8 (f_X5_choose_L27 o0 p1 p2 p3 p4 x22_6 s22_0 n27) σ212_ = some σ' → W p l e rm_X5_choose s m args below meth c H locs 0 0 (MQ below (Qv0 0 D Y A σ') args s 0 0 (FA 0 A)) (F0 m 212 ls []) := by
                  intro σ212_ H locs ls hW hl hf
                  rw [f_X5_choose_j212] at hf
                  refine lv_iinc (v := (x27_8 + (1 : Int32))) (lv' := [(8, .int (x27_8 + (1 : Int32))), (0, .ref (A 0 4 0)), (1, .ref (A 0 3 o0)), (2, .int p1), (3, .int p2), (4, .int p3), (5, .int p4), (6, .int x22_6), (7, .int s22_0)]) hx hb dX5_choose_212 hl (k := 8) rfl rfl (by decide) rfl (fun ls hl => ?_)
                  refine lv_goto (tgt := 27) hx hb dX5_choose_215 (by decide) ?_
                  exact ih27 (x27_8 + (1 : Int32)) σ212_ _ _ _ hW (lv_sub hl [1, 2, 3, 4, 5, 6, 7, 8, 0] rfl) hf
                refine lv_icmp_ge (tgt := 212) hx hb dX5_choose_161 (by decide) (fun q12 => ?_) (fun q12 => ?_)
                · rw [if_pos q12] at hf
                  exact J212 σ155_ _ _ _ hW (lv_sub hl [1, 2, 3, 4, 5, 6, 7, 8, 9] rfl) hf
                · rw [if_neg q12] at hf
                  refine lv_iload hx hb dX5_choose_164 (lv_at hl 0 rfl) ?_
                  refine lv_if_eq (tgt := 212) hx hb dX5_choose_166 (by decide) (fun q13 => ?_) (fun q13 => ?_)
                  · rw [if_pos q13] at hf
                    exact J212 σ155_ _ _ _ hW (lv_sub hl [1, 2, 3, 4, 5, 6, 7, 8, 9] rfl) hf
                  · rw [if_neg q13] at hf
                    refine lv_iload hx hb dX5_choose_169 (lv_at hl 6 rfl) ?_
                    have J182 : ∀ (σ182_ : ss_M) (H : Heap) (locs : List Loc) (ls : Array Slot), sW 0 D Y A σ182_ s s.heap H locs → lv_has ls 14 [(0, .ref (A 0 4 0)), (1, .ref (A 0 3 o0)), (2, .int p1), (3, .int p2), (4, .int p3), (5, .int p4), (6, .int x22_6), (7, .int s22_0), (8, .int x27_8), (11, .int x108_11), (12, .int x155_12)] → f_X5_choose_j182 p1 p2 x27_8 (f_X5_choose_L27 o0 p1 p2 p3 p4 x22_6 s22_0 n27) x108_11 x155_12 σ182_ = some σ' → W p l e rm_X5_choose s m args below meth c H locs 0 0 (MQ below (Qv0 0 D Y A σ') args s 0 0 (FA 0 A)) (F0 m 182 ls []) := by
                      intro σ182_ H locs ls hW hl hf
                      rw [f_X5_choose_j182] at hf
                      refine lv_aload_n hx hb dX5_choose_182 rfl (lv_at hl 0 rfl) ?_
                      refine gf_X5_costs hx hb hts hown hW (kS_in (by decide)) iX5 (List.mem_of_getElem? (i := 4) rfl) dX5_choose_183 ?_
                      refine lv_iload_n hx hb dX5_choose_186 rfl (lv_at hl 2 rfl) ?_
                      obtain ⟨g14, hf⟩ := ss_if hf
                      refine ra_g2 hx hb hW (kS_in (by decide)) g14 dX5_choose_187 ?_
                      refine lv_iload_n hx hb dX5_choose_188 rfl (lv_at hl 3 rfl) ?_
                      refine lv_iload hx hb dX5_choose_189 (lv_at hl 9 rfl) ?_
                      obtain ⟨g15, hf⟩ := ss_if hf
                      refine rs_i hx hb hW (kS_in (gd_lt g14)) g15 dX5_choose_191 (fun H locs hW => ?_)
                      refine lv_aload_n hx hb dX5_choose_192 rfl (lv_at hl 0 rfl) ?_
                      refine gf_X5_fewest hx hb hts hown hW (kS_in (by decide)) iX5 (List.mem_of_getElem? (i := 5) rfl) dX5_choose_193 ?_
                      refine lv_iload_n hx hb dX5_choose_196 rfl (lv_at hl 2 rfl) ?_
                      obtain ⟨g16, hf⟩ := ss_if hf
                      refine ra_g3 hx hb hW (kS_in (by decide)) g16 dX5_choose_197 ?_
                      refine lv_iload_n hx hb dX5_choose_198 rfl (lv_at hl 3 rfl) ?_
                      refine lv_iload hx hb dX5_choose_199 (lv_at hl 10 rfl) ?_
                      obtain ⟨g17, hf⟩ := ss_if hf
                      refine rs_i hx hb hW (kS_in (gd_lt g16)) g17 dX5_choose_201 (fun H locs hW => ?_)
                      obtain ⟨σm18, eσm18, hf⟩ := ss_let_some hf
                      rw [← eσm18] at hW
                      refine lv_aload_n hx hb dX5_choose_202 rfl (lv_at hl 0 rfl) ?_
                      refine gf_X5_choices hx hb hts hown hW (kS_in (by decide)) iX5 (List.mem_of_getElem? (i := 7) rfl) dX5_choose_203 ?_
                      refine lv_iload_n hx hb dX5_choose_206 rfl (lv_at hl 2 rfl) ?_
                      obtain ⟨g19, hf⟩ := ss_if hf
                      refine ra_g4 hx hb hW (kS_in (by decide)) g19 dX5_choose_207 ?_
                      refine lv_iload_n hx hb dX5_choose_208 rfl (lv_at hl 3 rfl) ?_
                      refine lv_iload hx hb dX5_choose_209 (lv_at hl 8 rfl) ?_
                      obtain ⟨g20, hf⟩ := ss_if hf
                      refine rs_i hx hb hW (kS_in (gd_lt g19)) g20 dX5_choose_211 (fun H locs hW => ?_)
                      exact J212 (sAu σm18 8 ((p1).toNatClampNeg) (upd (sA σm18 8 ((p1).toNatClampNeg)) (p2).toNatClampNeg x27_8)) _ _ _ hW (lv_sub hl [0, 1, 2, 3, 4, 5, 6, 7, 8] rfl) hf
                    refine lv_if_eq (tgt := 182) hx hb dX5_choose_171 (by decide) (fun q21 => ?_) (fun q21 => ?_)
                    · rw [if_pos q21] at hf
                      exact J182 σ155_ _ _ _ hW (lv_sub hl [1, 2, 3, 4, 5, 6, 7, 8, 9, 11, 12] rfl) hf
                    · rw [if_neg q21] at hf
                      refine lv_iload hx hb dX5_choose_174 (lv_at hl 10 rfl) ?_
                      obtain ⟨r22, σ22, hf22, hf⟩ := ss_bd_some hf
                      refine rt_i S (c_X1_ends l hAD  hf22) (va_cwS 1 hts gX5_choose_X1_ends rfl rfl rfl hd_X1_ends ⟨(Nat.le_of_ble_eq_true rfl), (Nat.le_of_ble_eq_true rfl)⟩) hW rfl rfl hl.1 (Nat.le_of_ble_eq_true rfl) ⟨Nat.zero_le _, Nat.zero_le _⟩ dX5_choose_176 (fun H locs hW => ?_)
                      refine lv_if_eq (tgt := 212) hx hb dX5_choose_179 (by decide) (fun q23 => ?_) (fun q23 => ?_)
                      · rw [if_pos q23] at hf
                        exact J212 σ22 _ _ _ hW (lv_sub hl [1, 2, 3, 4, 5, 6, 7, 8, 9] rfl) hf
                      · rw [if_neg q23] at hf
                        exact J182 σ22 _ _ _ hW (lv_sub hl [1, 2, 3, 4, 5, 6, 7, 8, 9, 11, 12] rfl) hf
              have J150 : ∀ (x150_12 : Int32) (σ150_ : ss_M) (H : Heap) (locs : List Loc) (ls : Array Slot), sW 0 D Y A σ150_ s s.heap H locs → lv_has ls 14 [(0, .ref (A 0 4 0)), (1, .ref (A 0 3 o0)), (2, .int p1), (3, .int p2), (4, .int p3), (5, .int p4), (6, .int x22_6), (7, .int s22_0), (8, .int x27_8), (9, .int s47_0), (11, .int x108_11), (12, .int x150_12)] → f_X5_choose_j150 p1 p2 p4 x27_8 (f_X5_choose_L27 o0 p1 p2 p3 p4 x22_6 s22_0 n27) s47_0 x108_11 x150_12 σ150_ = some σ' → W p l e rm_X5_choose s m args below meth c H locs 0 0 (MQ below (Qv0 0 D Y A σ') args s 0 0 (FA 0 A)) (F0 m 150 ls []) := by
                intro x150_12 σ150_ H locs ls hW hl hf
                rw [f_X5_choose_j150] at hf
                refine lv_iconst (v := (1 : Int32)) hx hb dX5_choose_150 (by decide) ?_
                refine lv_goto (tgt := 155) hx hb dX5_choose_151 (by decide) ?_
                exact J155 x150_12 (1 : Int32) σ150_ _ _ _ hW (lv_sub hl [0, 1, 2, 3, 4, 5, 6, 7, 8, 9, 10, 11] rfl) hf
              refine lv_icmp_lt (tgt := 150) hx hb dX5_choose_121 (by decide) (fun q24 => ?_) (fun q24 => ?_)
              · rw [if_pos q24] at hf
                exact J150 ((sA σ7 7 (((p1 + (1 : Int32))).toNatClampNeg) (r4).toNatClampNeg) + s108_0) σ108_ _ _ _ hW (lv_sub hl [1, 2, 3, 4, 5, 6, 7, 8, 9, 10, 11, 0] rfl) hf
              · rw [if_neg q24] at hf
                refine lv_iload hx hb dX5_choose_124 (lv_at hl 11 rfl) ?_
                refine lv_aload_n hx hb dX5_choose_126 rfl (lv_at hl 1 rfl) ?_
                refine gf_X5_costs hx hb hts hown hW (kS_in (by decide)) iX5 (List.mem_of_getElem? (i := 4) rfl) dX5_choose_127 ?_
                refine lv_iload_n hx hb dX5_choose_130 rfl (lv_at hl 3 rfl) ?_
                obtain ⟨g25, hf⟩ := ss_if hf
                refine ra_g2 hx hb hW (kS_in (by decide)) g25 dX5_choose_131 ?_
                refine lv_iload_n hx hb dX5_choose_132 rfl (lv_at hl 4 rfl) ?_
                obtain ⟨g26, hf⟩ := ss_if hf
                refine ra_i hx hb hW (kS_in (gd_lt g25)) g26 dX5_choose_133 ?_
                have J154 : ∀ (x154_12 : Int32) (σ154_ : ss_M) (H : Heap) (locs : List Loc) (ls : Array Slot), sW 0 D Y A σ154_ s s.heap H locs → lv_has ls 14 [(0, .ref (A 0 4 0)), (1, .ref (A 0 3 o0)), (2, .int p1), (3, .int p2), (4, .int p3), (5, .int p4), (6, .int x22_6), (7, .int s22_0), (8, .int x27_8), (9, .int s47_0), (11, .int x108_11), (12, .int x154_12)] → f_X5_choose_j154 p1 p2 p4 x27_8 (f_X5_choose_L27 o0 p1 p2 p3 p4 x22_6 s22_0 n27) s47_0 x108_11 x154_12 σ154_ = some σ' → W p l e rm_X5_choose s m args below meth c H locs 0 0 (MQ below (Qv0 0 D Y A σ') args s 0 0 (FA 0 A)) (F0 m 154 ls []) := by
                  intro x154_12 σ154_ H locs ls hW hl hf
                  rw [f_X5_choose_j154] at hf
                  refine lv_iconst (v := (0 : Int32)) hx hb dX5_choose_154 (by decide) ?_
                  exact J155 x154_12 (0 : Int32) σ154_ _ _ _ hW (lv_sub hl [0, 1, 2, 3, 4, 5, 6, 7, 8, 9, 10, 11] rfl) hf
                refine lv_icmp_ne (tgt := 154) hx hb dX5_choose_134 (by decide) (fun q27 => ?_) (fun q27 => ?_)
                · rw [if_neg q27] at hf
                  exact J154 ((sA σ7 7 (((p1 + (1 : Int32))).toNatClampNeg) (r4).toNatClampNeg) + s108_0) σ108_ _ _ _ hW (lv_sub hl [1, 2, 3, 4, 5, 6, 7, 8, 9, 10, 11, 0] rfl) hf
                · rw [if_pos q27] at hf
                  refine lv_iload hx hb dX5_choose_137 (lv_at hl 0 rfl) ?_
                  refine lv_aload_n hx hb dX5_choose_139 rfl (lv_at hl 1 rfl) ?_
                  refine gf_X5_fewest hx hb hts hown hW (kS_in (by decide)) iX5 (List.mem_of_getElem? (i := 5) rfl) dX5_choose_140 ?_
                  refine lv_iload_n hx hb dX5_choose_143 rfl (lv_at hl 3 rfl) ?_
                  obtain ⟨g28, hf⟩ := ss_if hf
                  refine ra_g3 hx hb hW (kS_in (by decide)) g28 dX5_choose_144 ?_
                  refine lv_iload_n hx hb dX5_choose_145 rfl (lv_at hl 4 rfl) ?_
                  obtain ⟨g29, hf⟩ := ss_if hf
                  refine ra_i hx hb hW (kS_in (gd_lt g28)) g29 dX5_choose_146 ?_
                  refine lv_icmp_ge (tgt := 154) hx hb dX5_choose_147 (by decide) (fun q30 => ?_) (fun q30 => ?_)
                  · rw [if_pos q30] at hf
                    exact J154 ((sA σ7 7 (((p1 + (1 : Int32))).toNatClampNeg) (r4).toNatClampNeg) + s108_0) σ108_ _ _ _ hW (lv_sub hl [1, 2, 3, 4, 5, 6, 7, 8, 9, 10, 11, 0] rfl) hf
                  · rw [if_neg q30] at hf
                    exact J150 ((sA σ7 7 (((p1 + (1 : Int32))).toNatClampNeg) (r4).toNatClampNeg) + s108_0) σ108_ _ _ _ hW (lv_sub hl [1, 2, 3, 4, 5, 6, 7, 8, 9, 10, 11, 0] rfl) hf
            refine lv_icmp_ne (tgt := 107) hx hb dX5_choose_100 (by decide) (fun q31 => ?_) (fun q31 => ?_)
            · rw [if_neg q31] at hf
              refine lv_iconst (v := (1 : Int32)) hx hb dX5_choose_107 (by decide) ?_
              exact J108 ((sA σ4 6 (((p1 + (1 : Int32))).toNatClampNeg) (r4).toNatClampNeg) + r7) (1 : Int32) σ7 _ _ _ hW (lv_sub hl [3, 4, 5, 6, 7, 8, 9, 10, 11, 2, 0] rfl) hf
            · rw [if_pos q31] at hf
              refine lv_iconst (v := (0 : Int32)) hx hb dX5_choose_103 (by decide) ?_
              refine lv_goto (tgt := 108) hx hb dX5_choose_104 (by decide) ?_
              exact J108 ((sA σ4 6 (((p1 + (1 : Int32))).toNatClampNeg) (r4).toNatClampNeg) + r7) (0 : Int32) σ7 _ _ _ hW (lv_sub hl [3, 4, 5, 6, 7, 8, 9, 10, 11, 2, 0] rfl) hf
          refine lv_icmp_ne (tgt := 45) hx hb dX5_choose_37 (by decide) (fun q32 => ?_) (fun q32 => ?_)
          · rw [if_neg q32] at hf
            refine lv_iload hx hb dX5_choose_45 (lv_at hl 8 rfl) ?_
            exact J47 x27_8 σ27_ _ _ _ hW (lv_sub hl [0, 1, 2, 3, 4, 5, 6, 7, 8] rfl) hf
          · rw [if_pos q32] at hf
            refine lv_iload hx hb dX5_choose_40 (lv_at hl 6 rfl) ?_
            refine lv_goto (tgt := 47) hx hb dX5_choose_42 (by decide) ?_
            exact J47 x22_6 σ27_ _ _ _ hW (lv_sub hl [0, 1, 2, 3, 4, 5, 6, 7, 8] rfl) hf
    exact L27 FU (-1 : Int32) σ22_ _ _ _ hW (lv_sub hl [2, 3, 4, 5, 6, 7, 8, 1, 0] rfl) hf
  refine lv_icmp_ne (tgt := 21) hx hb dX5_choose_14 (by decide) (fun q33 => ?_) (fun q33 => ?_)
  · rw [if_neg q33] at hf
    refine lv_iconst (v := (-1 : Int32)) hx hb dX5_choose_21 (by decide) ?_
    exact J22 (sA σ 0 o0 (p1).toNatClampNeg) (-1 : Int32) σ _ _ _ hW (lv_sub hl [1, 2, 3, 4, 5, 6, 0] rfl) hf
  · rw [if_pos q33] at hf
    refine lv_iconst (v := (5 : Int32)) hx hb dX5_choose_17 (by decide) ?_
    refine lv_goto (tgt := 22) hx hb dX5_choose_18 (by decide) ?_
    exact J22 (sA σ 0 o0 (p1).toNatClampNeg) (5 : Int32) σ _ _ _ hW (lv_sub hl [1, 2, 3, 4, 5, 6, 0] rfl) hf
def f_X5_make_j115 (x34_4 : Int32) (x34_5 : Int32) (kb34 : Int32 → Int32 → ss_M → Option ss_M) (σ115_ : ss_M) : Option ss_M :=
  kb34 x34_4 (x34_5 + (-1 : Int32)) σ115_
def f_X5_make_L91 (o0 : Nat) (p1 : Int32) (x34_5 : Int32) (s57_0 : Int32) (k91_115 : ss_M → Option ss_M) : Nat → Int32 → ss_M → Option ss_M
  | 0, _, _ => none
  | n91 + 1, x91_7, σ91_ => if p1 < x91_7 then (k91_115 σ91_) else (Option.bind (f_X5_choose o0 x34_5 x91_7 p1 s57_0 σ91_) (fun σ12 => (f_X5_make_L91 o0 p1 x34_5 s57_0 k91_115 n91) (x91_7 + (1 : Int32)) σ12))
def f_X5_make_j57 (o0 : Nat) (p1 : Int32) (x34_4 : Int32) (x34_5 : Int32) (kb34 : Int32 → Int32 → ss_M → Option ss_M) (s57_0 : Int32) (σ57_ : ss_M) : Option ss_M :=
  if gd x34_5 13 = true then (Option.bind (f_J7_fill_53178 6 ((x34_5).toNatClampNeg) (1000000 : Int32) σ57_) (fun σ7 => if gd x34_5 12 = true then (Option.bind (f_J7_fill_53178 8 ((x34_5).toNatClampNeg) (-1 : Int32) σ7) (fun σ9 => if gd x34_5 12 = true then (f_X5_make_L91 o0 p1 x34_5 s57_0 (f_X5_make_j115 x34_4 x34_5 kb34) FU (sA σ9 4 o0 (x34_5).toNatClampNeg) σ9) else none)) else none)) else none
def f_X5_make_j56 (o0 : Nat) (p1 : Int32) (x34_4 : Int32) (x34_5 : Int32) (kb34 : Int32 → Int32 → ss_M → Option ss_M) (σ56_ : ss_M) : Option ss_M :=
  f_X5_make_j57 o0 p1 x34_4 x34_5 kb34 (0 : Int32) σ56_
def f_X5_make_L34 (o0 : Nat) (p1 : Int32) (p2 : Int32) : Nat → Int32 → Int32 → ss_M → Option ss_M
  | 0, _, _, _ => none
  | n34 + 1, x34_4, x34_5, σ34_ => if x34_5 < (0 : Int32) then (some σ34_) else (if p2 = (0 : Int32) then (f_X5_make_j56 o0 p1 x34_4 x34_5 (f_X5_make_L34 o0 p1 p2 n34) σ34_) else (if x34_5 = (x34_4 - (1 : Int32)) then (f_X5_make_j57 o0 p1 x34_4 x34_5 (f_X5_make_L34 o0 p1 p2 n34) (1 : Int32) σ34_) else (f_X5_make_j56 o0 p1 x34_4 x34_5 (f_X5_make_L34 o0 p1 p2 n34) σ34_)))
def f_X5_make (o0 : Nat) (p1 : Int32) (p2 : Int32) (σ : ss_M) : Option ss_M :=
  if gd (sG σ 5 o0) 13 = true then (Option.bind (f_J7_fill_53178 6 (((sG σ 5 o0)).toNatClampNeg) (0 : Int32) σ) (fun σ2 => if gd (sG σ 5 o0) 13 = true then (Option.bind (f_J7_fill_53178 7 (((sG σ 5 o0)).toNatClampNeg) (0 : Int32) σ2) (fun σ4 => f_X5_make_L34 o0 p1 p2 FU (sG σ 5 o0) ((sG σ 5 o0) - (1 : Int32)) σ4)) else none)) else none
def rm_X5_make : Room := { frames := 6, cells := 0, slots := 0, locals := 300 }
theorem hd_X5_make : yX5_make.cls = RX5 ∧ yX5_make.cls ≠ "java/lang/invoke/MethodHandle" ∧ yX5_make.cls ≠ "java/lang/invoke/VarHandle" ∧ (parseMethodDescriptor yX5_make.desc).map (fun d => d.parameters.length) = some 3 := by decide +kernel
set_option maxHeartbeats 4000000 in
set_option maxRecDepth 100000 in
theorem c_X5_make (l : Launch) {D : va_G} {Y : Nat → ClassId} {A : ss_A} (hAD : AD 0 A) {o0 : Nat} {p1 : Int32} {p2 : Int32} (ho0 : o0 < 4) {σ σ' : ss_M} (hf : f_X5_make o0 p1 p2 σ = some σ') : Met l yX5_make wsX5_make rm_X5_make (Pc0 0 D Y A σ [.ref (A 0 4 0), .ref (A 0 3 o0), .int p1, .int p2]) (Qv0 0 D Y A σ') 0 0 (FA 0 A) := by
  rw [f_X5_make] at hf
  refine Met0 (cc := cX5_make) (maxL := 8) (ret := none) (own := RX5) (by decide +kernel) rfl hAD rfl (Nat.le_of_ble_eq_true rfl) ?_
  intro p e s m args below meth c S hr hlocks hW ls hl
  obtain ⟨hx, hb, hml, hown, hts⟩ := id S
  have iX4 : ∀ q ∈ wsX40, q ∈ wsX5_make := fun q h => List.mem_cons_of_mem _ (List.mem_append_left _ (List.mem_append_left _ (List.mem_append_right _ (h))))
  have iX5 : ∀ q ∈ wsX50, q ∈ wsX5_make := fun q h => List.mem_cons_of_mem _ (List.mem_append_left _ (List.mem_append_right _ (h)))
  have hl : lv_has ls 8 [(0, .ref (A 0 4 0)), (1, .ref (A 0 3 o0)), (2, .int p1), (3, .int p2)] := hl
  refine lv_aload_n hx hb dX5_make_0 rfl (lv_at hl 1 rfl) ?_
  refine gf_X4_words hx hb hts hown hW (kS_in ho0) iX4 (List.mem_of_getElem? (i := 1) rfl) dX5_make_1 ?_
  refine lv_istore (lv' := [(4, .int (sG σ 5 o0)), (0, .ref (A 0 4 0)), (1, .ref (A 0 3 o0)), (2, .int p1), (3, .int p2)]) hx hb dX5_make_4 hl (by decide) rfl (fun ls hl => ?_)
  refine lv_aload_n hx hb dX5_make_6 rfl (lv_at hl 1 rfl) ?_
  refine gf_X5_costs hx hb hts hown hW (kS_in (by decide)) iX5 (List.mem_of_getElem? (i := 2) rfl) dX5_make_7 ?_
  refine lv_iload hx hb dX5_make_10 (lv_at hl 0 rfl) ?_
  obtain ⟨g1, hf⟩ := ss_if hf
  refine ra_g2 hx hb hW (kS_in (by decide)) g1 dX5_make_12 ?_
  refine lv_iconst (v := (0 : Int32)) hx hb dX5_make_13 (by decide) ?_
  obtain ⟨σ2, hf2, hf⟩ := ss_bind hf
  refine rt_v S (c_J7_fill_53178 l hAD (kS_in (gd_lt g1)) hf2) (va_cwS 2 hts gX5_make_J7_fill_53178 rfl rfl rfl hd_J7_fill_53178 ⟨(Nat.le_of_ble_eq_true rfl), (Nat.le_of_ble_eq_true rfl)⟩) hW rfl rfl hl.1 (Nat.le_of_ble_eq_true rfl) ⟨Nat.zero_le _, Nat.zero_le _⟩ dX5_make_14 (fun H locs hW => ?_)
  refine lv_aload_n hx hb dX5_make_17 rfl (lv_at hl 1 rfl) ?_
  refine gf_X5_fewest hx hb hts hown hW (kS_in (by decide)) iX5 (List.mem_of_getElem? (i := 3) rfl) dX5_make_18 ?_
  refine lv_iload hx hb dX5_make_21 (lv_at hl 0 rfl) ?_
  obtain ⟨g3, hf⟩ := ss_if hf
  refine ra_g3 hx hb hW (kS_in (by decide)) g3 dX5_make_23 ?_
  refine lv_iconst (v := (0 : Int32)) hx hb dX5_make_24 (by decide) ?_
  obtain ⟨σ4, hf4, hf⟩ := ss_bind hf
  refine rt_v S (c_J7_fill_53178 l hAD (kS_in (gd_lt g3)) hf4) (va_cwS 2 hts gX5_make_J7_fill_53178 rfl rfl rfl hd_J7_fill_53178 ⟨(Nat.le_of_ble_eq_true rfl), (Nat.le_of_ble_eq_true rfl)⟩) hW rfl rfl hl.1 (Nat.le_of_ble_eq_true rfl) ⟨Nat.zero_le _, Nat.zero_le _⟩ dX5_make_25 (fun H locs hW => ?_)
  refine lv_iload hx hb dX5_make_28 (lv_at hl 0 rfl) ?_
  refine lv_iconst (v := (1 : Int32)) hx hb dX5_make_30 (by decide) ?_
  refine lv_isub hx hb dX5_make_31 ?_
  refine lv_istore (lv' := [(5, .int ((sG σ 5 o0) - (1 : Int32))), (4, .int (sG σ 5 o0)), (0, .ref (A 0 4 0)), (1, .ref (A 0 3 o0)), (2, .int p1), (3, .int p2)]) hx hb dX5_make_32 hl (by decide) rfl (fun ls hl => ?_)
  have L34 : ∀ (n34 : Nat), ∀ (x34_4 : Int32) (x34_5 : Int32) (σ34_ : ss_M) (H : Heap) (locs : List Loc) (ls : Array Slot), sW 0 D Y A σ34_ s s.heap H locs → lv_has ls 8 [(0, .ref (A 0 4 0)), (1, .ref (A 0 3 o0)), (2, .int p1), (3, .int p2), (4, .int x34_4), (5, .int x34_5)] → f_X5_make_L34 o0 p1 p2 n34 x34_4 x34_5 σ34_ = some σ' → W p l e rm_X5_make s m args below meth c H locs 0 0 (MQ below (Qv0 0 D Y A σ') args s 0 0 (FA 0 A)) (F0 m 34 ls []) := by
    intro n34
    induction n34 with
    | zero =>
      intro x34_4 x34_5 σ34_ H locs ls hW hl hf
      rw [f_X5_make_L34] at hf
      cases hf
    | succ n34 ih34 =>
      intro x34_4 x34_5 σ34_ H locs ls hW hl hf
      rw [f_X5_make_L34] at hf
      refine lv_iload hx hb dX5_make_34 (lv_at hl 5 rfl) ?_
      refine lv_if_lt (tgt := 121) hx hb dX5_make_36 (by decide) (fun q5 => ?_) (fun q5 => ?_)
      · rw [if_pos q5] at hf
        exact re_v hx hb hr hlocks hW (Option.some.inj hf) dX5_make_121
      · rw [if_neg q5] at hf
        refine lv_iload_n hx hb dX5_make_39 rfl (lv_at hl 3 rfl) ?_
        have J57 : ∀ (s57_0 : Int32) (σ57_ : ss_M) (H : Heap) (locs : List Loc) (ls : Array Slot), sW 0 D Y A σ57_ s s.heap H locs → lv_has ls 8 [(0, .ref (A 0 4 0)), (1, .ref (A 0 3 o0)), (2, .int p1), (3, .int p2), (4, .int x34_4), (5, .int x34_5)] → f_X5_make_j57 o0 p1 x34_4 x34_5 (f_X5_make_L34 o0 p1 p2 n34) s57_0 σ57_ = some σ' → W p l e rm_X5_make s m args below meth c H locs 0 0 (MQ below (Qv0 0 D Y A σ') args s 0 0 (FA 0 A)) (F0 m 57 ls [.int s57_0]) := by
          intro s57_0 σ57_ H locs ls hW hl hf
          rw [f_X5_make_j57] at hf
          refine lv_istore (lv' := [(6, .int s57_0), (0, .ref (A 0 4 0)), (1, .ref (A 0 3 o0)), (2, .int p1), (3, .int p2), (4, .int x34_4), (5, .int x34_5)]) hx hb dX5_make_57 hl (by decide) rfl (fun ls hl => ?_)
          refine lv_aload_n hx hb dX5_make_59 rfl (lv_at hl 1 rfl) ?_
          refine gf_X5_costs hx hb hts hown hW (kS_in (by decide)) iX5 (List.mem_of_getElem? (i := 2) rfl) dX5_make_60 ?_
          refine lv_iload hx hb dX5_make_63 (lv_at hl 6 rfl) ?_
          obtain ⟨g6, hf⟩ := ss_if hf
          refine ra_g2 hx hb hW (kS_in (by decide)) g6 dX5_make_65 ?_
          refine lv_ldc hx hb hown (hts _ (List.mem_of_getElem? (i := 4) rfl)) dX5_make_66 ?_
          obtain ⟨σ7, hf7, hf⟩ := ss_bind hf
          refine rt_v S (c_J7_fill_53178 l hAD (kS_in (gd_lt g6)) hf7) (va_cwS 2 hts gX5_make_J7_fill_53178 rfl rfl rfl hd_J7_fill_53178 ⟨(Nat.le_of_ble_eq_true rfl), (Nat.le_of_ble_eq_true rfl)⟩) hW rfl rfl hl.1 (Nat.le_of_ble_eq_true rfl) ⟨Nat.zero_le _, Nat.zero_le _⟩ dX5_make_68 (fun H locs hW => ?_)
          refine lv_aload_n hx hb dX5_make_71 rfl (lv_at hl 1 rfl) ?_
          refine gf_X5_choices hx hb hts hown hW (kS_in (by decide)) iX5 (List.mem_of_getElem? (i := 5) rfl) dX5_make_72 ?_
          refine lv_iload hx hb dX5_make_75 (lv_at hl 6 rfl) ?_
          obtain ⟨g8, hf⟩ := ss_if hf
          refine ra_g4 hx hb hW (kS_in (by decide)) g8 dX5_make_77 ?_
          refine lv_iconst (v := (-1 : Int32)) hx hb dX5_make_78 (by decide) ?_
          obtain ⟨σ9, hf9, hf⟩ := ss_bind hf
          refine rt_v S (c_J7_fill_53178 l hAD (kS_in (gd_lt g8)) hf9) (va_cwS 2 hts gX5_make_J7_fill_53178 rfl rfl rfl hd_J7_fill_53178 ⟨(Nat.le_of_ble_eq_true rfl), (Nat.le_of_ble_eq_true rfl)⟩) hW rfl rfl hl.1 (Nat.le_of_ble_eq_true rfl) ⟨Nat.zero_le _, Nat.zero_le _⟩ dX5_make_79 (fun H locs hW => ?_)
          refine lv_aload_n hx hb dX5_make_82 rfl (lv_at hl 2 rfl) ?_
          refine gf_X4_lengths hx hb hts hown hW (kS_in ho0) iX4 (List.mem_of_getElem? (i := 6) rfl) dX5_make_83 ?_
          refine lv_iload hx hb dX5_make_86 (lv_at hl 6 rfl) ?_
          obtain ⟨g10, hf⟩ := ss_if hf
          refine ra_i hx hb hW (kS_in ho0) g10 dX5_make_88 ?_
          refine lv_istore (lv' := [(7, .int (sA σ9 4 o0 (x34_5).toNatClampNeg)), (6, .int s57_0), (0, .ref (A 0 4 0)), (1, .ref (A 0 3 o0)), (2, .int p1), (3, .int p2), (4, .int x34_4), (5, .int x34_5)]) hx hb dX5_make_89 hl (by decide) rfl (fun ls hl => ?_)
          have J115 : ∀ (σ115_ : ss_M) (H : Heap) (locs : List Loc) (ls : Array Slot), sW 0 D Y A σ115_ s s.heap H locs → lv_has ls 8 [(0, .ref (A 0 4 0)), (1, .ref (A 0 3 o0)), (2, .int p1), (3, .int p2), (4, .int x34_4), (5, .int x34_5)] → f_X5_make_j115 x34_4 x34_5 (f_X5_make_L34 o0 p1 p2 n34) σ115_ = some σ' → W p l e rm_X5_make s m args below meth c H locs 0 0 (MQ below (Qv0 0 D Y A σ') args s 0 0 (FA 0 A)) (F0 m 115 ls []) := by
            intro σ115_ H locs ls hW hl hf
            rw [f_X5_make_j115] at hf
            refine lv_iinc (v := (x34_5 + (-1 : Int32))) (lv' := [(5, .int (x34_5 + (-1 : Int32))), (0, .ref (A 0 4 0)), (1, .ref (A 0 3 o0)), (2, .int p1), (3, .int p2), (4, .int x34_4)]) hx hb dX5_make_115 hl (k := 5) rfl rfl (by decide) rfl (fun ls hl => ?_)
            refine lv_goto (tgt := 34) hx hb dX5_make_118 (by decide) ?_
            exact ih34 x34_4 (x34_5 + (-1 : Int32)) σ115_ _ _ _ hW (lv_sub hl [1, 2, 3, 4, 5, 0] rfl) hf
          have L91 : ∀ (n91 : Nat), ∀ (x91_7 : Int32) (σ91_ : ss_M) (H : Heap) (locs : List Loc) (ls : Array Slot), sW 0 D Y A σ91_ s s.heap H locs → lv_has ls 8 [(0, .ref (A 0 4 0)), (1, .ref (A 0 3 o0)), (2, .int p1), (3, .int p2), (4, .int x34_4), (5, .int x34_5), (6, .int s57_0), (7, .int x91_7)] → f_X5_make_L91 o0 p1 x34_5 s57_0 (f_X5_make_j115 x34_4 x34_5 (f_X5_make_L34 o0 p1 p2 n34)) n91 x91_7 σ91_ = some σ' → W p l e rm_X5_make s m args below meth c H locs 0 0 (MQ below (Qv0 0 D Y A σ') args s 0 0 (FA 0 A)) (F0 m 91 ls []) := by
            intro n91
            induction n91 with
            | zero =>
              intro x91_7 σ91_ H locs ls hW hl hf
              rw [f_X5_make_L91] at hf
              cases hf
            | succ n91 ih91 =>
              intro x91_7 σ91_ H locs ls hW hl hf
              rw [f_X5_make_L91] at hf
              refine lv_iload hx hb dX5_make_91 (lv_at hl 7 rfl) ?_
              refine lv_iload_n hx hb dX5_make_93 rfl (lv_at hl 2 rfl) ?_
              refine lv_icmp_gt (tgt := 115) hx hb dX5_make_94 (by decide) (fun q11 => ?_) (fun q11 => ?_)
              · rw [if_pos q11] at hf
                exact J115 σ91_ _ _ _ hW (lv_sub hl [0, 1, 2, 3, 4, 5] rfl) hf
              · rw [if_neg q11] at hf
                refine lv_aload_n hx hb dX5_make_97 rfl (lv_at hl 0 rfl) ?_
                refine lv_aload_n hx hb dX5_make_98 rfl (lv_at hl 1 rfl) ?_
                refine lv_iload hx hb dX5_make_99 (lv_at hl 5 rfl) ?_
                refine lv_iload hx hb dX5_make_101 (lv_at hl 7 rfl) ?_
                refine lv_iload_n hx hb dX5_make_103 rfl (lv_at hl 2 rfl) ?_
                refine lv_iload hx hb dX5_make_104 (lv_at hl 6 rfl) ?_
                obtain ⟨σ12, hf12, hf⟩ := ss_bind hf
                refine rv_v S (c_X5_choose l hAD ho0 hf12) (cwV 5 hts gX5_make_X5_choose rfl rfl rfl hd_X5_choose ⟨(Nat.le_of_ble_eq_true rfl), (Nat.le_of_ble_eq_true rfl)⟩) hW (kS_in (by decide)) rfl rfl rfl hl.1 (Nat.le_of_ble_eq_true rfl) ⟨Nat.zero_le _, Nat.zero_le _⟩ dX5_make_106 (fun H locs hW => ?_)
                refine lv_iinc (v := (x91_7 + (1 : Int32))) (lv' := [(7, .int (x91_7 + (1 : Int32))), (0, .ref (A 0 4 0)), (1, .ref (A 0 3 o0)), (2, .int p1), (3, .int p2), (4, .int x34_4), (5, .int x34_5), (6, .int s57_0)]) hx hb dX5_make_109 hl (k := 7) rfl rfl (by decide) rfl (fun ls hl => ?_)
                refine lv_goto (tgt := 91) hx hb dX5_make_112 (by decide) ?_
                exact ih91 (x91_7 + (1 : Int32)) σ12 _ _ _ hW (lv_sub hl [1, 2, 3, 4, 5, 6, 7, 0] rfl) hf
          exact L91 FU (sA σ9 4 o0 (x34_5).toNatClampNeg) σ9 _ _ _ hW (lv_sub hl [2, 3, 4, 5, 6, 7, 1, 0] rfl) hf
        have J56 : ∀ (σ56_ : ss_M) (H : Heap) (locs : List Loc) (ls : Array Slot), sW 0 D Y A σ56_ s s.heap H locs → lv_has ls 8 [(0, .ref (A 0 4 0)), (1, .ref (A 0 3 o0)), (2, .int p1), (3, .int p2), (4, .int x34_4), (5, .int x34_5)] → f_X5_make_j56 o0 p1 x34_4 x34_5 (f_X5_make_L34 o0 p1 p2 n34) σ56_ = some σ' → W p l e rm_X5_make s m args below meth c H locs 0 0 (MQ below (Qv0 0 D Y A σ') args s 0 0 (FA 0 A)) (F0 m 56 ls []) := by
          intro σ56_ H locs ls hW hl hf
          rw [f_X5_make_j56] at hf
          refine lv_iconst (v := (0 : Int32)) hx hb dX5_make_56 (by decide) ?_
          exact J57 (0 : Int32) σ56_ _ _ _ hW (lv_sub hl [0, 1, 2, 3, 4, 5] rfl) hf
        refine lv_if_eq (tgt := 56) hx hb dX5_make_40 (by decide) (fun q13 => ?_) (fun q13 => ?_)
        · rw [if_pos q13] at hf
          exact J56 σ34_ _ _ _ hW (lv_sub hl [0, 1, 2, 3, 4, 5] rfl) hf
        · rw [if_neg q13] at hf
          refine lv_iload hx hb dX5_make_43 (lv_at hl 5 rfl) ?_
          refine lv_iload hx hb dX5_make_45 (lv_at hl 4 rfl) ?_
          refine lv_iconst (v := (1 : Int32)) hx hb dX5_make_47 (by decide) ?_
          refine lv_isub hx hb dX5_make_48 ?_
          refine lv_icmp_ne (tgt := 56) hx hb dX5_make_49 (by decide) (fun q14 => ?_) (fun q14 => ?_)
          · rw [if_neg q14] at hf
            exact J56 σ34_ _ _ _ hW (lv_sub hl [0, 1, 2, 3, 4, 5] rfl) hf
          · rw [if_pos q14] at hf
            refine lv_iconst (v := (1 : Int32)) hx hb dX5_make_52 (by decide) ?_
            refine lv_goto (tgt := 57) hx hb dX5_make_53 (by decide) ?_
            exact J57 (1 : Int32) σ34_ _ _ _ hW (lv_sub hl [0, 1, 2, 3, 4, 5] rfl) hf
  exact L34 FU (sG σ 5 o0) ((sG σ 5 o0) - (1 : Int32)) σ4 _ _ _ hW (lv_sub hl [2, 3, 4, 5, 1, 0] rfl) hf
def f_X5_isThere (p0 : Int32) (σ : ss_M) : Option (Int32 × ss_M) :=
  if gd (0 : Int32) 13 = true then (if gd p0 31 = true then (if (1000000 : Int32) ≤ (sA σ 6 (((0 : Int32)).toNatClampNeg) (p0).toNatClampNeg) then (some ((0 : Int32), σ)) else (some ((1 : Int32), σ))) else none) else none
def rm_X5_isThere : Room := { frames := 0, cells := 0, slots := 0, locals := 0 }
theorem hd_X5_isThere : yX5_isThere.cls = RX5 ∧ yX5_isThere.cls ≠ "java/lang/invoke/MethodHandle" ∧ yX5_isThere.cls ≠ "java/lang/invoke/VarHandle" ∧ (parseMethodDescriptor yX5_isThere.desc).map (fun d => d.parameters.length) = some 1 := by decide +kernel
set_option maxHeartbeats 4000000 in
set_option maxRecDepth 100000 in
theorem c_X5_isThere (l : Launch) {D : va_G} {Y : Nat → ClassId} {A : ss_A} (hAD : AD 0 A) {p0 : Int32}  {r : Int32} {σ σ' : ss_M} (hf : f_X5_isThere p0 σ = some (r, σ')) : Met l yX5_isThere wsX5_isThere rm_X5_isThere (Pc0 0 D Y A σ [.ref (A 0 4 0), .int p0]) (Qi0 0 D Y A r σ') 0 0 (FA 0 A) := by
  rw [f_X5_isThere] at hf
  refine Met0 (cc := cX5_isThere) (maxL := 2) (ret := (some .boolean)) (own := RX5) (by decide +kernel) rfl hAD rfl (Nat.le_of_ble_eq_true rfl) ?_
  intro p e s m args below meth c S hr hlocks hW ls hl
  obtain ⟨hx, hb, hml, hown, hts⟩ := id S
  have iX5 : ∀ q ∈ wsX50, q ∈ wsX5_isThere := fun q h => List.mem_cons_of_mem _ (List.mem_append_right _ (h))
  have hl : lv_has ls 2 [(0, .ref (A 0 4 0)), (1, .int p0)] := hl
  refine lv_aload_n hx hb dX5_isThere_0 rfl (lv_at hl 0 rfl) ?_
  refine gf_X5_costs hx hb hts hown hW (kS_in (by decide)) iX5 (List.mem_of_getElem? (i := 1) rfl) dX5_isThere_1 ?_
  refine lv_iconst (v := (0 : Int32)) hx hb dX5_isThere_4 (by decide) ?_
  obtain ⟨g1, hf⟩ := ss_if hf
  refine ra_g2 hx hb hW (kS_in (by decide)) g1 dX5_isThere_5 ?_
  refine lv_iload_n hx hb dX5_isThere_6 rfl (lv_at hl 1 rfl) ?_
  obtain ⟨g2, hf⟩ := ss_if hf
  refine ra_i hx hb hW (kS_in (gd_lt g1)) g2 dX5_isThere_7 ?_
  refine lv_ldc hx hb hown (hts _ (List.mem_of_getElem? (i := 2) rfl)) dX5_isThere_8 ?_
  refine lv_icmp_ge (tgt := 17) hx hb dX5_isThere_10 (by decide) (fun q3 => ?_) (fun q3 => ?_)
  · rw [if_pos q3] at hf
    refine lv_iconst (v := (0 : Int32)) hx hb dX5_isThere_17 (by decide) ?_
    exact re_z hx hb hr hlocks hW (by decide) (Option.some.inj hf) dX5_isThere_18
  · rw [if_neg q3] at hf
    refine lv_iconst (v := (1 : Int32)) hx hb dX5_isThere_13 (by decide) ?_
    refine lv_goto (tgt := 18) hx hb dX5_isThere_14 (by decide) ?_
    exact re_z hx hb hr hlocks hW (by decide) (Option.some.inj hf) dX5_isThere_18
def f_X5_cost (p0 : Int32) (σ : ss_M) : Option (Int32 × ss_M) :=
  if gd (0 : Int32) 13 = true then (if gd p0 31 = true then (some ((sA σ 6 (((0 : Int32)).toNatClampNeg) (p0).toNatClampNeg), σ)) else none) else none
def rm_X5_cost : Room := { frames := 0, cells := 0, slots := 0, locals := 0 }
theorem hd_X5_cost : yX5_cost.cls = RX5 ∧ yX5_cost.cls ≠ "java/lang/invoke/MethodHandle" ∧ yX5_cost.cls ≠ "java/lang/invoke/VarHandle" ∧ (parseMethodDescriptor yX5_cost.desc).map (fun d => d.parameters.length) = some 1 := by decide +kernel
set_option maxHeartbeats 4000000 in
set_option maxRecDepth 100000 in
theorem c_X5_cost (l : Launch) {D : va_G} {Y : Nat → ClassId} {A : ss_A} (hAD : AD 0 A) {p0 : Int32}  {r : Int32} {σ σ' : ss_M} (hf : f_X5_cost p0 σ = some (r, σ')) : Met l yX5_cost wsX5_cost rm_X5_cost (Pc0 0 D Y A σ [.ref (A 0 4 0), .int p0]) (Qi0 0 D Y A r σ') 0 0 (FA 0 A) := by
  rw [f_X5_cost] at hf
  refine Met0 (cc := cX5_cost) (maxL := 2) (ret := (some .int)) (own := RX5) (by decide +kernel) rfl hAD rfl (Nat.le_of_ble_eq_true rfl) ?_
  intro p e s m args below meth c S hr hlocks hW ls hl
  obtain ⟨hx, hb, hml, hown, hts⟩ := id S
  have iX5 : ∀ q ∈ wsX50, q ∈ wsX5_cost := fun q h => List.mem_cons_of_mem _ (List.mem_append_right _ (h))
  have hl : lv_has ls 2 [(0, .ref (A 0 4 0)), (1, .int p0)] := hl
  refine lv_aload_n hx hb dX5_cost_0 rfl (lv_at hl 0 rfl) ?_
  refine gf_X5_costs hx hb hts hown hW (kS_in (by decide)) iX5 (List.mem_of_getElem? (i := 1) rfl) dX5_cost_1 ?_
  refine lv_iconst (v := (0 : Int32)) hx hb dX5_cost_4 (by decide) ?_
  obtain ⟨g1, hf⟩ := ss_if hf
  refine ra_g2 hx hb hW (kS_in (by decide)) g1 dX5_cost_5 ?_
  refine lv_iload_n hx hb dX5_cost_6 rfl (lv_at hl 1 rfl) ?_
  obtain ⟨g2, hf⟩ := ss_if hf
  refine ra_i hx hb hW (kS_in (gd_lt g1)) g2 dX5_cost_7 ?_
  exact re_i hx hb hr hlocks hW (Option.some.inj hf) dX5_cost_8
def f_X5_kindBehind_j71 (p2 : Int32) (x71_4 : Int32) (σ71_ : ss_M) : Option (Int32 × ss_M) :=
  if gd p2 12 = true then (if gd x71_4 31 = true then (some ((sA σ71_ 8 ((p2).toNatClampNeg) (x71_4).toNatClampNeg), σ71_)) else none) else none
def f_X5_kindBehind_j45 (o0 : Nat) (p1 : Int32) (x6_4 : Int32) (x6_5 : Int32) (kb6 : Int32 → Int32 → ss_M → Option (Int32 × ss_M)) (s45_0 : Int32) (σ45_ : ss_M) : Option (Int32 × ss_M) :=
  if gd x6_5 12 = true then (ss_bd (f_X1_breathBehind s45_0 (x6_4 - (sA σ45_ 4 o0 (x6_5).toNatClampNeg)) p1 σ45_) (fun r6 σ6 => kb6 r6 (x6_5 + (1 : Int32)) σ6)) else none
def f_X5_kindBehind_L6 (o0 : Nat) (p1 : Int32) (p2 : Int32) (k6_71 : Int32 → ss_M → Option (Int32 × ss_M)) : Nat → Int32 → Int32 → ss_M → Option (Int32 × ss_M)
  | 0, _, _, _ => none
  | n6 + 1, x6_4, x6_5, σ6_ => if p2 ≤ x6_5 then (k6_71 x6_4 σ6_) else (if gd x6_5 12 = true then (if (sA σ6_ 0 o0 (x6_5).toNatClampNeg) = (-1 : Int32) then (if gd x6_5 12 = true then (if gd x6_4 31 = true then (f_X5_kindBehind_j45 o0 p1 x6_4 x6_5 (f_X5_kindBehind_L6 o0 p1 p2 k6_71 n6) (sA σ6_ 8 ((x6_5).toNatClampNeg) (x6_4).toNatClampNeg) σ6_) else none) else none) else (f_X5_kindBehind_j45 o0 p1 x6_4 x6_5 (f_X5_kindBehind_L6 o0 p1 p2 k6_71 n6) (sA σ6_ 0 o0 (x6_5).toNatClampNeg) σ6_)) else none)
def f_X5_kindBehind (o0 : Nat) (p1 : Int32) (p2 : Int32) (σ : ss_M) : Option (Int32 × ss_M) :=
  f_X5_kindBehind_L6 o0 p1 p2 (f_X5_kindBehind_j71 p2) FU p1 (0 : Int32) σ
def rm_X5_kindBehind : Room := { frames := 4, cells := 0, slots := 0, locals := 200 }
theorem hd_X5_kindBehind : yX5_kindBehind.cls = RX5 ∧ yX5_kindBehind.cls ≠ "java/lang/invoke/MethodHandle" ∧ yX5_kindBehind.cls ≠ "java/lang/invoke/VarHandle" ∧ (parseMethodDescriptor yX5_kindBehind.desc).map (fun d => d.parameters.length) = some 3 := by decide +kernel
set_option maxHeartbeats 4000000 in
set_option maxRecDepth 100000 in
theorem c_X5_kindBehind (l : Launch) {D : va_G} {Y : Nat → ClassId} {A : ss_A} (hAD : AD 0 A) {o0 : Nat} {p1 : Int32} {p2 : Int32} (ho0 : o0 < 4) {r : Int32} {σ σ' : ss_M} (hf : f_X5_kindBehind o0 p1 p2 σ = some (r, σ')) : Met l yX5_kindBehind wsX5_kindBehind rm_X5_kindBehind (Pc0 0 D Y A σ [.ref (A 0 4 0), .ref (A 0 3 o0), .int p1, .int p2]) (Qi0 0 D Y A r σ') 0 0 (FA 0 A) := by
  rw [f_X5_kindBehind] at hf
  refine Met0 (cc := cX5_kindBehind) (maxL := 8) (ret := (some .int)) (own := RX5) (by decide +kernel) rfl hAD rfl (Nat.le_of_ble_eq_true rfl) ?_
  intro p e s m args below meth c S hr hlocks hW ls hl
  obtain ⟨hx, hb, hml, hown, hts⟩ := id S
  have iX5 : ∀ q ∈ wsX50, q ∈ wsX5_kindBehind := fun q h => List.mem_cons_of_mem _ (List.mem_append_right _ (h))
  have iX4 : ∀ q ∈ wsX40, q ∈ wsX5_kindBehind := fun q h => List.mem_cons_of_mem _ (List.mem_append_left _ (List.mem_append_left _ (List.mem_append_right _ (h))))
  have iX2 : ∀ q ∈ wsX20, q ∈ wsX5_kindBehind := fun q h => List.mem_cons_of_mem _ (List.mem_append_left _ (List.mem_append_right _ (h)))
  have hl : lv_has ls 8 [(0, .ref (A 0 4 0)), (1, .ref (A 0 3 o0)), (2, .int p1), (3, .int p2)] := hl
  refine lv_iload_n hx hb dX5_kindBehind_0 rfl (lv_at hl 2 rfl) ?_
  refine lv_istore (lv' := [(4, .int p1), (0, .ref (A 0 4 0)), (1, .ref (A 0 3 o0)), (2, .int p1), (3, .int p2)]) hx hb dX5_kindBehind_1 hl (by decide) rfl (fun ls hl => ?_)
  refine lv_iconst (v := (0 : Int32)) hx hb dX5_kindBehind_3 (by decide) ?_
  refine lv_istore (lv' := [(5, .int (0 : Int32)), (4, .int p1), (0, .ref (A 0 4 0)), (1, .ref (A 0 3 o0)), (2, .int p1), (3, .int p2)]) hx hb dX5_kindBehind_4 hl (by decide) rfl (fun ls hl => ?_)
  have J71 : ∀ (x71_4 : Int32) (σ71_ : ss_M) (H : Heap) (locs : List Loc) (ls : Array Slot), sW 0 D Y A σ71_ s s.heap H locs → lv_has ls 8 [(0, .ref (A 0 4 0)), (3, .int p2), (4, .int x71_4)] → f_X5_kindBehind_j71 p2 x71_4 σ71_ = some (r, σ') → W p l e rm_X5_kindBehind s m args below meth c H locs 0 0 (MQ below (Qi0 0 D Y A r σ') args s 0 0 (FA 0 A)) (F0 m 71 ls []) := by
    intro x71_4 σ71_ H locs ls hW hl hf
    rw [f_X5_kindBehind_j71] at hf
    refine lv_aload_n hx hb dX5_kindBehind_71 rfl (lv_at hl 0 rfl) ?_
    refine gf_X5_choices hx hb hts hown hW (kS_in (by decide)) iX5 (List.mem_of_getElem? (i := 3) rfl) dX5_kindBehind_72 ?_
    refine lv_iload_n hx hb dX5_kindBehind_75 rfl (lv_at hl 1 rfl) ?_
    obtain ⟨g1, hf⟩ := ss_if hf
    refine ra_g4 hx hb hW (kS_in (by decide)) g1 dX5_kindBehind_76 ?_
    refine lv_iload hx hb dX5_kindBehind_77 (lv_at hl 2 rfl) ?_
    obtain ⟨g2, hf⟩ := ss_if hf
    refine ra_i hx hb hW (kS_in (gd_lt g1)) g2 dX5_kindBehind_79 ?_
    exact re_i hx hb hr hlocks hW (Option.some.inj hf) dX5_kindBehind_80
  have L6 : ∀ (n6 : Nat), ∀ (x6_4 : Int32) (x6_5 : Int32) (σ6_ : ss_M) (H : Heap) (locs : List Loc) (ls : Array Slot), sW 0 D Y A σ6_ s s.heap H locs → lv_has ls 8 [(0, .ref (A 0 4 0)), (1, .ref (A 0 3 o0)), (2, .int p1), (3, .int p2), (4, .int x6_4), (5, .int x6_5)] → f_X5_kindBehind_L6 o0 p1 p2 (f_X5_kindBehind_j71 p2) n6 x6_4 x6_5 σ6_ = some (r, σ') → W p l e rm_X5_kindBehind s m args below meth c H locs 0 0 (MQ below (Qi0 0 D Y A r σ') args s 0 0 (FA 0 A)) (F0 m 6 ls []) := by
    intro n6
    induction n6 with
    | zero =>
      intro x6_4 x6_5 σ6_ H locs ls hW hl hf
      rw [f_X5_kindBehind_L6] at hf
      cases hf
    | succ n6 ih6 =>
      intro x6_4 x6_5 σ6_ H locs ls hW hl hf
      rw [f_X5_kindBehind_L6] at hf
      refine lv_iload hx hb dX5_kindBehind_6 (lv_at hl 5 rfl) ?_
      refine lv_iload_n hx hb dX5_kindBehind_8 rfl (lv_at hl 3 rfl) ?_
      refine lv_icmp_ge (tgt := 71) hx hb dX5_kindBehind_9 (by decide) (fun q3 => ?_) (fun q3 => ?_)
      · rw [if_pos q3] at hf
        exact J71 x6_4 σ6_ _ _ _ hW (lv_sub hl [0, 3, 4] rfl) hf
      · rw [if_neg q3] at hf
        refine lv_aload_n hx hb dX5_kindBehind_12 rfl (lv_at hl 1 rfl) ?_
        refine gf_X4_marks hx hb hts hown hW (kS_in ho0) iX4 (List.mem_of_getElem? (i := 1) rfl) dX5_kindBehind_13 ?_
        refine gf_X2_kinds hx hb hts hown hW (kS_in (Nat.lt_of_lt_of_le ho0 (by decide))) iX2 (List.mem_of_getElem? (i := 2) rfl) dX5_kindBehind_16 ?_
        refine lv_iload hx hb dX5_kindBehind_19 (lv_at hl 5 rfl) ?_
        obtain ⟨g4, hf⟩ := ss_if hf
        refine ra_i hx hb hW (kS_in (Nat.lt_of_lt_of_le ho0 (by decide))) g4 dX5_kindBehind_21 ?_
        refine lv_istore (lv' := [(6, .int (sA σ6_ 0 o0 (x6_5).toNatClampNeg)), (0, .ref (A 0 4 0)), (1, .ref (A 0 3 o0)), (2, .int p1), (3, .int p2), (4, .int x6_4), (5, .int x6_5)]) hx hb dX5_kindBehind_22 hl (by decide) rfl (fun ls hl => ?_)
        refine lv_iload hx hb dX5_kindBehind_24 (lv_at hl 0 rfl) ?_
        refine lv_iconst (v := (-1 : Int32)) hx hb dX5_kindBehind_26 (by decide) ?_
        have J45 : ∀ (s45_0 : Int32) (σ45_ : ss_M) (H : Heap) (locs : List Loc) (ls : Array Slot), sW 0 D Y A σ45_ s s.heap H locs → lv_has ls 8 [(0, .ref (A 0 4 0)), (1, .ref (A 0 3 o0)), (2, .int p1), (3, .int p2), (4, .int x6_4), (5, .int x6_5)] → f_X5_kindBehind_j45 o0 p1 x6_4 x6_5 (f_X5_kindBehind_L6 o0 p1 p2 (f_X5_kindBehind_j71 p2) n6) s45_0 σ45_ = some (r, σ') → W p l e rm_X5_kindBehind s m args below meth c H locs 0 0 (MQ below (Qi0 0 D Y A r σ') args s 0 0 (FA 0 A)) (F0 m 45 ls [.int s45_0]) := by
          intro s45_0 σ45_ H locs ls hW hl hf
          rw [f_X5_kindBehind_j45] at hf
          refine lv_istore (lv' := [(7, .int s45_0), (0, .ref (A 0 4 0)), (1, .ref (A 0 3 o0)), (2, .int p1), (3, .int p2), (4, .int x6_4), (5, .int x6_5)]) hx hb dX5_kindBehind_45 hl (by decide) rfl (fun ls hl => ?_)
          refine lv_iload hx hb dX5_kindBehind_47 (lv_at hl 0 rfl) ?_
          refine lv_iload hx hb dX5_kindBehind_49 (lv_at hl 5 rfl) ?_
          refine lv_aload_n hx hb dX5_kindBehind_51 rfl (lv_at hl 2 rfl) ?_
          refine gf_X4_lengths hx hb hts hown hW (kS_in ho0) iX4 (List.mem_of_getElem? (i := 4) rfl) dX5_kindBehind_52 ?_
          refine lv_iload hx hb dX5_kindBehind_55 (lv_at hl 6 rfl) ?_
          obtain ⟨g5, hf⟩ := ss_if hf
          refine ra_i hx hb hW (kS_in ho0) g5 dX5_kindBehind_57 ?_
          refine lv_isub hx hb dX5_kindBehind_58 ?_
          refine lv_iload_n hx hb dX5_kindBehind_59 rfl (lv_at hl 3 rfl) ?_
          obtain ⟨r6, σ6, hf6, hf⟩ := ss_bd_some hf
          refine rt_i S (c_X1_breathBehind l hAD  hf6) (va_cwS 3 hts gX5_kindBehind_X1_breathBehind rfl rfl rfl hd_X1_breathBehind ⟨(Nat.le_of_ble_eq_true rfl), (Nat.le_of_ble_eq_true rfl)⟩) hW rfl rfl hl.1 (Nat.le_of_ble_eq_true rfl) ⟨Nat.zero_le _, Nat.zero_le _⟩ dX5_kindBehind_60 (fun H locs hW => ?_)
          refine lv_istore (lv' := [(4, .int r6), (7, .int s45_0), (0, .ref (A 0 4 0)), (1, .ref (A 0 3 o0)), (2, .int p1), (3, .int p2), (5, .int x6_5)]) hx hb dX5_kindBehind_63 hl (by decide) rfl (fun ls hl => ?_)
          refine lv_iinc (v := (x6_5 + (1 : Int32))) (lv' := [(5, .int (x6_5 + (1 : Int32))), (4, .int r6), (7, .int s45_0), (0, .ref (A 0 4 0)), (1, .ref (A 0 3 o0)), (2, .int p1), (3, .int p2)]) hx hb dX5_kindBehind_65 hl (k := 6) rfl rfl (by decide) rfl (fun ls hl => ?_)
          refine lv_goto (tgt := 6) hx hb dX5_kindBehind_68 (by decide) ?_
          exact ih6 r6 (x6_5 + (1 : Int32)) σ6 _ _ _ hW (lv_sub hl [3, 4, 5, 6, 1, 0] rfl) hf
        refine lv_icmp_ne (tgt := 43) hx hb dX5_kindBehind_27 (by decide) (fun q7 => ?_) (fun q7 => ?_)
        · rw [if_neg q7] at hf
          refine lv_iload hx hb dX5_kindBehind_43 (lv_at hl 0 rfl) ?_
          exact J45 (sA σ6_ 0 o0 (x6_5).toNatClampNeg) σ6_ _ _ _ hW (lv_sub hl [1, 2, 3, 4, 5, 6] rfl) hf
        · rw [if_pos q7] at hf
          refine lv_aload_n hx hb dX5_kindBehind_30 rfl (lv_at hl 1 rfl) ?_
          refine gf_X5_choices hx hb hts hown hW (kS_in (by decide)) iX5 (List.mem_of_getElem? (i := 3) rfl) dX5_kindBehind_31 ?_
          refine lv_iload hx hb dX5_kindBehind_34 (lv_at hl 6 rfl) ?_
          obtain ⟨g8, hf⟩ := ss_if hf
          refine ra_g4 hx hb hW (kS_in (by decide)) g8 dX5_kindBehind_36 ?_
          refine lv_iload hx hb dX5_kindBehind_37 (lv_at hl 5 rfl) ?_
          obtain ⟨g9, hf⟩ := ss_if hf
          refine ra_i hx hb hW (kS_in (gd_lt g8)) g9 dX5_kindBehind_39 ?_
          refine lv_goto (tgt := 45) hx hb dX5_kindBehind_40 (by decide) ?_
          exact J45 (sA σ6_ 8 ((x6_5).toNatClampNeg) (x6_4).toNatClampNeg) σ6_ _ _ _ hW (lv_sub hl [1, 2, 3, 4, 5, 6] rfl) hf
  exact L6 FU p1 (0 : Int32) σ _ _ _ hW (lv_sub hl [2, 3, 4, 5, 1, 0] rfl) hf
def f_X5_spread_j47 (o0 : Nat) (p1 : Int32) (p2 : Int32) (x27_6 : Int32) (kb27 : Int32 → ss_M → Option ss_M) (s47_0 : Int32) (σ47_ : ss_M) : Option ss_M :=
  if gd p1 12 = true then (ss_bd (f_X1_breathBehind s47_0 (p2 - (sA σ47_ 4 o0 (p1).toNatClampNeg)) (sG σ47_ 3 o0) σ47_) (fun r4 σ4 => if gd r4 31 = true then (if gd p2 31 = true then (ss_bd (f_X4_costOf o0 x27_6 σ4) (fun r7 σ7 => if gd r4 31 = true then (ss_let (sAu σ7 10 0 (upd (sA σ7 10 0) (r4).toNatClampNeg (if ((sA σ4 9 0 (p2).toNatClampNeg) + r7) < (sA σ4 10 0 (r4).toNatClampNeg) then ((sA σ4 9 0 (p2).toNatClampNeg) + r7) else (sA σ4 10 0 (r4).toNatClampNeg)))) (fun σm9 => kb27 (x27_6 + (1 : Int32)) σm9)) else none)) else none) else none)) else none
def f_X5_spread_L27 (o0 : Nat) (p1 : Int32) (p2 : Int32) (x22_4 : Int32) (s22_0 : Int32) : Nat → Int32 → ss_M → Option ss_M
  | 0, _, _ => none
  | n27 + 1, x27_6, σ27_ => if s22_0 < x27_6 then (some σ27_) else (if x27_6 = (-1 : Int32) then (f_X5_spread_j47 o0 p1 p2 x27_6 (f_X5_spread_L27 o0 p1 p2 x22_4 s22_0 n27) x22_4 σ27_) else (f_X5_spread_j47 o0 p1 p2 x27_6 (f_X5_spread_L27 o0 p1 p2 x22_4 s22_0 n27) x27_6 σ27_))
def f_X5_spread_j22 (o0 : Nat) (p1 : Int32) (p2 : Int32) (x22_4 : Int32) (s22_0 : Int32) (σ22_ : ss_M) : Option ss_M :=
  f_X5_spread_L27 o0 p1 p2 x22_4 s22_0 FU (-1 : Int32) σ22_
def f_X5_spread (o0 : Nat) (p1 : Int32) (p2 : Int32) (σ : ss_M) : Option ss_M :=
  if gd p1 12 = true then (if (sA σ 0 o0 (p1).toNatClampNeg) = (-1 : Int32) then (f_X5_spread_j22 o0 p1 p2 (sA σ 0 o0 (p1).toNatClampNeg) (5 : Int32) σ) else (f_X5_spread_j22 o0 p1 p2 (sA σ 0 o0 (p1).toNatClampNeg) (-1 : Int32) σ)) else none
def rm_X5_spread : Room := { frames := 4, cells := 0, slots := 0, locals := 200 }
theorem hd_X5_spread : yX5_spread.cls = RX5 ∧ yX5_spread.cls ≠ "java/lang/invoke/MethodHandle" ∧ yX5_spread.cls ≠ "java/lang/invoke/VarHandle" ∧ (parseMethodDescriptor yX5_spread.desc).map (fun d => d.parameters.length) = some 3 := by decide +kernel
set_option maxHeartbeats 4000000 in
set_option maxRecDepth 100000 in
theorem c_X5_spread (l : Launch) {D : va_G} {Y : Nat → ClassId} {A : ss_A} (hAD : AD 0 A) {o0 : Nat} {p1 : Int32} {p2 : Int32} (ho0 : o0 < 4) {σ σ' : ss_M} (hf : f_X5_spread o0 p1 p2 σ = some σ') : Met l yX5_spread wsX5_spread rm_X5_spread (Pc0 0 D Y A σ [.ref (A 0 4 0), .ref (A 0 3 o0), .int p1, .int p2]) (Qv0 0 D Y A σ') 0 0 (FA 0 A) := by
  rw [f_X5_spread] at hf
  refine Met0 (cc := cX5_spread) (maxL := 9) (ret := none) (own := RX5) (by decide +kernel) rfl hAD rfl (Nat.le_of_ble_eq_true rfl) ?_
  intro p e s m args below meth c S hr hlocks hW ls hl
  obtain ⟨hx, hb, hml, hown, hts⟩ := id S
  have iX4 : ∀ q ∈ wsX40, q ∈ wsX5_spread := fun q h => List.mem_cons_of_mem _ (List.mem_append_left _ (List.mem_append_left _ (List.mem_append_right _ (h))))
  have iX2 : ∀ q ∈ wsX20, q ∈ wsX5_spread := fun q h => List.mem_cons_of_mem _ (List.mem_append_left _ (List.mem_append_right _ (h)))
  have iX5 : ∀ q ∈ wsX50, q ∈ wsX5_spread := fun q h => List.mem_cons_of_mem _ (List.mem_append_right _ (h))
  have hl : lv_has ls 9 [(0, .ref (A 0 4 0)), (1, .ref (A 0 3 o0)), (2, .int p1), (3, .int p2)] := hl
  refine lv_aload_n hx hb dX5_spread_0 rfl (lv_at hl 1 rfl) ?_
  refine gf_X4_marks hx hb hts hown hW (kS_in ho0) iX4 (List.mem_of_getElem? (i := 1) rfl) dX5_spread_1 ?_
  refine gf_X2_kinds hx hb hts hown hW (kS_in (Nat.lt_of_lt_of_le ho0 (by decide))) iX2 (List.mem_of_getElem? (i := 2) rfl) dX5_spread_4 ?_
  refine lv_iload_n hx hb dX5_spread_7 rfl (lv_at hl 2 rfl) ?_
  obtain ⟨g1, hf⟩ := ss_if hf
  refine ra_i hx hb hW (kS_in (Nat.lt_of_lt_of_le ho0 (by decide))) g1 dX5_spread_8 ?_
  refine lv_istore (lv' := [(4, .int (sA σ 0 o0 (p1).toNatClampNeg)), (0, .ref (A 0 4 0)), (1, .ref (A 0 3 o0)), (2, .int p1), (3, .int p2)]) hx hb dX5_spread_9 hl (by decide) rfl (fun ls hl => ?_)
  refine lv_iload hx hb dX5_spread_11 (lv_at hl 0 rfl) ?_
  refine lv_iconst (v := (-1 : Int32)) hx hb dX5_spread_13 (by decide) ?_
  have J22 : ∀ (x22_4 : Int32) (s22_0 : Int32) (σ22_ : ss_M) (H : Heap) (locs : List Loc) (ls : Array Slot), sW 0 D Y A σ22_ s s.heap H locs → lv_has ls 9 [(0, .ref (A 0 4 0)), (1, .ref (A 0 3 o0)), (2, .int p1), (3, .int p2), (4, .int x22_4)] → f_X5_spread_j22 o0 p1 p2 x22_4 s22_0 σ22_ = some σ' → W p l e rm_X5_spread s m args below meth c H locs 0 0 (MQ below (Qv0 0 D Y A σ') args s 0 0 (FA 0 A)) (F0 m 22 ls [.int s22_0]) := by
    intro x22_4 s22_0 σ22_ H locs ls hW hl hf
    rw [f_X5_spread_j22] at hf
    refine lv_istore (lv' := [(5, .int s22_0), (0, .ref (A 0 4 0)), (1, .ref (A 0 3 o0)), (2, .int p1), (3, .int p2), (4, .int x22_4)]) hx hb dX5_spread_22 hl (by decide) rfl (fun ls hl => ?_)
    refine lv_iconst (v := (-1 : Int32)) hx hb dX5_spread_24 (by decide) ?_
    refine lv_istore (lv' := [(6, .int (-1 : Int32)), (5, .int s22_0), (0, .ref (A 0 4 0)), (1, .ref (A 0 3 o0)), (2, .int p1), (3, .int p2), (4, .int x22_4)]) hx hb dX5_spread_25 hl (by decide) rfl (fun ls hl => ?_)
    have L27 : ∀ (n27 : Nat), ∀ (x27_6 : Int32) (σ27_ : ss_M) (H : Heap) (locs : List Loc) (ls : Array Slot), sW 0 D Y A σ27_ s s.heap H locs → lv_has ls 9 [(0, .ref (A 0 4 0)), (1, .ref (A 0 3 o0)), (2, .int p1), (3, .int p2), (4, .int x22_4), (5, .int s22_0), (6, .int x27_6)] → f_X5_spread_L27 o0 p1 p2 x22_4 s22_0 n27 x27_6 σ27_ = some σ' → W p l e rm_X5_spread s m args below meth c H locs 0 0 (MQ below (Qv0 0 D Y A σ') args s 0 0 (FA 0 A)) (F0 m 27 ls []) := by
      intro n27
      induction n27 with
      | zero =>
        intro x27_6 σ27_ H locs ls hW hl hf
        rw [f_X5_spread_L27] at hf
        cases hf
      | succ n27 ih27 =>
        intro x27_6 σ27_ H locs ls hW hl hf
        rw [f_X5_spread_L27] at hf
        refine lv_iload hx hb dX5_spread_27 (lv_at hl 6 rfl) ?_
        refine lv_iload hx hb dX5_spread_29 (lv_at hl 5 rfl) ?_
        refine lv_icmp_gt (tgt := 104) hx hb dX5_spread_31 (by decide) (fun q2 => ?_) (fun q2 => ?_)
        · rw [if_pos q2] at hf
          exact re_v hx hb hr hlocks hW (Option.some.inj hf) dX5_spread_104
        · rw [if_neg q2] at hf
          refine lv_iload hx hb dX5_spread_34 (lv_at hl 6 rfl) ?_
          refine lv_iconst (v := (-1 : Int32)) hx hb dX5_spread_36 (by decide) ?_
          have J47 : ∀ (s47_0 : Int32) (σ47_ : ss_M) (H : Heap) (locs : List Loc) (ls : Array Slot), sW 0 D Y A σ47_ s s.heap H locs → lv_has ls 9 [(0, .ref (A 0 4 0)), (1, .ref (A 0 3 o0)), (2, .int p1), (3, .int p2), (4, .int x22_4), (5, .int s22_0), (6, .int x27_6)] → f_X5_spread_j47 o0 p1 p2 x27_6 (f_X5_spread_L27 o0 p1 p2 x22_4 s22_0 n27) s47_0 σ47_ = some σ' → W p l e rm_X5_spread s m args below meth c H locs 0 0 (MQ below (Qv0 0 D Y A σ') args s 0 0 (FA 0 A)) (F0 m 47 ls [.int s47_0]) := by
            intro s47_0 σ47_ H locs ls hW hl hf
            rw [f_X5_spread_j47] at hf
            refine lv_istore (lv' := [(7, .int s47_0), (0, .ref (A 0 4 0)), (1, .ref (A 0 3 o0)), (2, .int p1), (3, .int p2), (4, .int x22_4), (5, .int s22_0), (6, .int x27_6)]) hx hb dX5_spread_47 hl (by decide) rfl (fun ls hl => ?_)
            refine lv_iload hx hb dX5_spread_49 (lv_at hl 0 rfl) ?_
            refine lv_iload_n hx hb dX5_spread_51 rfl (lv_at hl 4 rfl) ?_
            refine lv_aload_n hx hb dX5_spread_52 rfl (lv_at hl 2 rfl) ?_
            refine gf_X4_lengths hx hb hts hown hW (kS_in ho0) iX4 (List.mem_of_getElem? (i := 3) rfl) dX5_spread_53 ?_
            refine lv_iload_n hx hb dX5_spread_56 rfl (lv_at hl 3 rfl) ?_
            obtain ⟨g3, hf⟩ := ss_if hf
            refine ra_i hx hb hW (kS_in ho0) g3 dX5_spread_57 ?_
            refine lv_isub hx hb dX5_spread_58 ?_
            refine lv_aload_n hx hb dX5_spread_59 rfl (lv_at hl 2 rfl) ?_
            refine gf_X4_breath hx hb hts hown hW (kS_in ho0) iX4 (List.mem_of_getElem? (i := 4) rfl) dX5_spread_60 ?_
            obtain ⟨r4, σ4, hf4, hf⟩ := ss_bd_some hf
            refine rt_i S (c_X1_breathBehind l hAD  hf4) (va_cwS 3 hts gX5_spread_X1_breathBehind rfl rfl rfl hd_X1_breathBehind ⟨(Nat.le_of_ble_eq_true rfl), (Nat.le_of_ble_eq_true rfl)⟩) hW rfl rfl hl.1 (Nat.le_of_ble_eq_true rfl) ⟨Nat.zero_le _, Nat.zero_le _⟩ dX5_spread_63 (fun H locs hW => ?_)
            refine lv_istore (lv' := [(8, .int r4), (7, .int s47_0), (0, .ref (A 0 4 0)), (1, .ref (A 0 3 o0)), (2, .int p1), (3, .int p2), (4, .int x22_4), (5, .int s22_0), (6, .int x27_6)]) hx hb dX5_spread_66 hl (by decide) rfl (fun ls hl => ?_)
            refine lv_aload_n hx hb dX5_spread_68 rfl (lv_at hl 2 rfl) ?_
            refine gf_X5_then hx hb hts hown hW (kS_in (by decide)) iX5 (List.mem_of_getElem? (i := 5) rfl) dX5_spread_69 ?_
            refine lv_iload hx hb dX5_spread_72 (lv_at hl 0 rfl) ?_
            refine lv_aload_n hx hb dX5_spread_74 rfl (lv_at hl 2 rfl) ?_
            refine gf_X5_then hx hb hts hown hW (kS_in (by decide)) iX5 (List.mem_of_getElem? (i := 5) rfl) dX5_spread_75 ?_
            refine lv_iload hx hb dX5_spread_78 (lv_at hl 0 rfl) ?_
            obtain ⟨g5, hf⟩ := ss_if hf
            refine ra_i hx hb hW (kS_in (by decide)) g5 dX5_spread_80 ?_
            refine lv_aload_n hx hb dX5_spread_81 rfl (lv_at hl 2 rfl) ?_
            refine gf_X5_now hx hb hts hown hW (kS_in (by decide)) iX5 (List.mem_of_getElem? (i := 6) rfl) dX5_spread_82 ?_
            refine lv_iload_n hx hb dX5_spread_85 rfl (lv_at hl 5 rfl) ?_
            obtain ⟨g6, hf⟩ := ss_if hf
            refine ra_i hx hb hW (kS_in (by decide)) g6 dX5_spread_86 ?_
            refine lv_aload_n hx hb dX5_spread_87 rfl (lv_at hl 3 rfl) ?_
            refine lv_iload hx hb dX5_spread_88 (lv_at hl 8 rfl) ?_
            obtain ⟨r7, σ7, hf7, hf⟩ := ss_bd_some hf
            refine rv_i S (c_X4_costOf l hAD ho0 hf7) (cwV 1 hts gX5_spread_X4_costOf rfl rfl rfl hd_X4_costOf ⟨(Nat.le_of_ble_eq_true rfl), (Nat.le_of_ble_eq_true rfl)⟩) hW (kS_in ho0) rfl rfl rfl hl.1 (Nat.le_of_ble_eq_true rfl) ⟨Nat.zero_le _, Nat.zero_le _⟩ dX5_spread_90 (fun H locs hW => ?_)
            refine lv_iadd hx hb dX5_spread_93 ?_
            refine va_mmin hx hb (hml.trans hl.1.symm) hown (hts _ (List.mem_of_getElem? (i := 7) rfl)) (hts _ (List.mem_of_getElem? (i := 8) rfl)) (hts _ (List.mem_of_getElem? (i := 9) rfl)) (hts _ (List.mem_of_getElem? (i := 10) rfl)) (Nat.le_of_ble_eq_true rfl) (Nat.le_of_ble_eq_true rfl) (Nat.zero_le _) (Nat.zero_le _) dX5_spread_94 ?_
            obtain ⟨g8, hf⟩ := ss_if hf
            refine rs_i hx hb hW (kS_in (by decide)) g8 dX5_spread_97 (fun H locs hW => ?_)
            obtain ⟨σm9, eσm9, hf⟩ := ss_let_some hf
            rw [← eσm9] at hW
            refine lv_iinc (v := (x27_6 + (1 : Int32))) (lv' := [(6, .int (x27_6 + (1 : Int32))), (8, .int r4), (7, .int s47_0), (0, .ref (A 0 4 0)), (1, .ref (A 0 3 o0)), (2, .int p1), (3, .int p2), (4, .int x22_4), (5, .int s22_0)]) hx hb dX5_spread_98 hl (k := 8) rfl rfl (by decide) rfl (fun ls hl => ?_)
            refine lv_goto (tgt := 27) hx hb dX5_spread_101 (by decide) ?_
            exact ih27 (x27_6 + (1 : Int32)) σm9 _ _ _ hW (lv_sub hl [3, 4, 5, 6, 7, 8, 0] rfl) hf
          refine lv_icmp_ne (tgt := 45) hx hb dX5_spread_37 (by decide) (fun q10 => ?_) (fun q10 => ?_)
          · rw [if_neg q10] at hf
            refine lv_iload hx hb dX5_spread_45 (lv_at hl 6 rfl) ?_
            exact J47 x27_6 σ27_ _ _ _ hW (lv_sub hl [0, 1, 2, 3, 4, 5, 6] rfl) hf
          · rw [if_pos q10] at hf
            refine lv_iload hx hb dX5_spread_40 (lv_at hl 4 rfl) ?_
            refine lv_goto (tgt := 47) hx hb dX5_spread_42 (by decide) ?_
            exact J47 x22_4 σ27_ _ _ _ hW (lv_sub hl [0, 1, 2, 3, 4, 5, 6] rfl) hf
    exact L27 FU (-1 : Int32) σ22_ _ _ _ hW (lv_sub hl [2, 3, 4, 5, 6, 1, 0] rfl) hf
  refine lv_icmp_ne (tgt := 21) hx hb dX5_spread_14 (by decide) (fun q11 => ?_) (fun q11 => ?_)
  · rw [if_neg q11] at hf
    refine lv_iconst (v := (-1 : Int32)) hx hb dX5_spread_21 (by decide) ?_
    exact J22 (sA σ 0 o0 (p1).toNatClampNeg) (-1 : Int32) σ _ _ _ hW (lv_sub hl [1, 2, 3, 4, 0] rfl) hf
  · rw [if_pos q11] at hf
    refine lv_iconst (v := (5 : Int32)) hx hb dX5_spread_17 (by decide) ?_
    refine lv_goto (tgt := 22) hx hb dX5_spread_18 (by decide) ?_
    exact J22 (sA σ 0 o0 (p1).toNatClampNeg) (5 : Int32) σ _ _ _ hW (lv_sub hl [1, 2, 3, 4, 0] rfl) hf
def f_X5_reachFor_j117 (o0 : Nat) (σ117_ : ss_M) : Option (Int32 × ss_M) :=
  some ((sG σ117_ 5 o0), σ117_)
def f_X5_reachFor_j86 (x21_3 : Int32) (kb21 : Int32 → ss_M → Option (Int32 × ss_M)) (x86_4 : Int32) (σ86_ : ss_M) : Option (Int32 × ss_M) :=
  if x86_4 = (0 : Int32) then (some (x21_3, σ86_)) else (if gdc (0 : Int32) (0 : Int32) (31 : Int32) 31 31 = true then (kb21 (x21_3 + (1 : Int32)) (sAu σ86_ 9 0 (va_cpy (sA σ86_ 10 0) (sA σ86_ 9 0) ((0 : Int32)).toNatClampNeg ((0 : Int32)).toNatClampNeg ((31 : Int32)).toNatClampNeg))) else none)
def f_X5_reachFor_j80 (x49_5 : Int32) (kb49 : Int32 → Int32 → ss_M → Option (Int32 × ss_M)) (x80_4 : Int32) (σ80_ : ss_M) : Option (Int32 × ss_M) :=
  kb49 x80_4 (x49_5 + (1 : Int32)) σ80_
def f_X5_reachFor_L49 (o0 : Nat) (p1 : Int32) (x21_3 : Int32) (k49_86 : Int32 → ss_M → Option (Int32 × ss_M)) : Nat → Int32 → Int32 → ss_M → Option (Int32 × ss_M)
  | 0, _, _, _ => none
  | n49 + 1, x49_4, x49_5, σ49_ => if (sG σ49_ 3 o0) < x49_5 then (k49_86 x49_4 σ49_) else (if gd x49_5 31 = true then (if p1 < (sA σ49_ 9 0 (x49_5).toNatClampNeg) then (f_X5_reachFor_j80 x49_5 (f_X5_reachFor_L49 o0 p1 x21_3 k49_86 n49) x49_4 σ49_) else (Option.bind (f_X5_spread o0 x21_3 x49_5 σ49_) (fun σ11 => f_X5_reachFor_j80 x49_5 (f_X5_reachFor_L49 o0 p1 x21_3 k49_86 n49) (1 : Int32) σ11))) else none)
def f_X5_reachFor_L21 (o0 : Nat) (p1 : Int32) (k21_117 : ss_M → Option (Int32 × ss_M)) : Nat → Int32 → ss_M → Option (Int32 × ss_M)
  | 0, _, _ => none
  | n21 + 1, x21_3, σ21_ => if (sG σ21_ 5 o0) ≤ x21_3 then (k21_117 σ21_) else (Option.bind (f_J7_fill_53178 10 0 (1000000 : Int32) σ21_) (fun σ4 => if gd x21_3 12 = true then (f_X5_reachFor_L49 o0 p1 x21_3 (f_X5_reachFor_j86 x21_3 (f_X5_reachFor_L21 o0 p1 k21_117 n21)) FU (0 : Int32) (sA σ4 4 o0 (x21_3).toNatClampNeg) σ4) else none))
def f_X5_reachFor (o0 : Nat) (p1 : Int32) (σ : ss_M) : Option (Int32 × ss_M) :=
  Option.bind (f_J7_fill_53178 9 0 (1000000 : Int32) σ) (fun σ1 => if gd (sG σ1 3 o0) 31 = true then (f_X5_reachFor_L21 o0 p1 (f_X5_reachFor_j117 o0) FU (0 : Int32) (sAu σ1 9 0 (upd (sA σ1 9 0) ((sG σ1 3 o0)).toNatClampNeg (0 : Int32)))) else none)
def rm_X5_reachFor : Room := { frames := 6, cells := 0, slots := 0, locals := 300 }
theorem hd_X5_reachFor : yX5_reachFor.cls = RX5 ∧ yX5_reachFor.cls ≠ "java/lang/invoke/MethodHandle" ∧ yX5_reachFor.cls ≠ "java/lang/invoke/VarHandle" ∧ (parseMethodDescriptor yX5_reachFor.desc).map (fun d => d.parameters.length) = some 2 := by decide +kernel
set_option maxHeartbeats 4000000 in
set_option maxRecDepth 100000 in
theorem c_X5_reachFor (l : Launch) {D : va_G} {Y : Nat → ClassId} {A : ss_A} (hAD : AD 0 A) {o0 : Nat} {p1 : Int32} (ho0 : o0 < 4) {r : Int32} {σ σ' : ss_M} (hf : f_X5_reachFor o0 p1 σ = some (r, σ')) : Met l yX5_reachFor wsX5_reachFor rm_X5_reachFor (Pc0 0 D Y A σ [.ref (A 0 4 0), .ref (A 0 3 o0), .int p1]) (Qi0 0 D Y A r σ') 0 0 (FA 0 A) := by
  rw [f_X5_reachFor] at hf
  refine Met0 (cc := cX5_reachFor) (maxL := 6) (ret := (some .int)) (own := RX5) (by decide +kernel) rfl hAD rfl (Nat.le_of_ble_eq_true rfl) ?_
  intro p e s m args below meth c S hr hlocks hW ls hl
  obtain ⟨hx, hb, hml, hown, hts⟩ := id S
  have iX5 : ∀ q ∈ wsX50, q ∈ wsX5_reachFor := fun q h => List.mem_cons_of_mem _ (List.mem_append_left _ (List.mem_append_left _ (List.mem_append_right _ (h))))
  have iX4 : ∀ q ∈ wsX40, q ∈ wsX5_reachFor := fun q h => List.mem_cons_of_mem _ (List.mem_append_left _ (List.mem_append_right _ (h)))
  have hl : lv_has ls 6 [(0, .ref (A 0 4 0)), (1, .ref (A 0 3 o0)), (2, .int p1)] := hl
  refine lv_aload_n hx hb dX5_reachFor_0 rfl (lv_at hl 0 rfl) ?_
  refine gf_X5_now hx hb hts hown hW (kS_in (by decide)) iX5 (List.mem_of_getElem? (i := 1) rfl) dX5_reachFor_1 ?_
  refine lv_ldc hx hb hown (hts _ (List.mem_of_getElem? (i := 2) rfl)) dX5_reachFor_4 ?_
  obtain ⟨σ1, hf1, hf⟩ := ss_bind hf
  refine rt_v S (c_J7_fill_53178 l hAD (kS_in (by decide)) hf1) (va_cwS 2 hts gX5_reachFor_J7_fill_53178 rfl rfl rfl hd_J7_fill_53178 ⟨(Nat.le_of_ble_eq_true rfl), (Nat.le_of_ble_eq_true rfl)⟩) hW rfl rfl hl.1 (Nat.le_of_ble_eq_true rfl) ⟨Nat.zero_le _, Nat.zero_le _⟩ dX5_reachFor_6 (fun H locs hW => ?_)
  refine lv_aload_n hx hb dX5_reachFor_9 rfl (lv_at hl 0 rfl) ?_
  refine gf_X5_now hx hb hts hown hW (kS_in (by decide)) iX5 (List.mem_of_getElem? (i := 1) rfl) dX5_reachFor_10 ?_
  refine lv_aload_n hx hb dX5_reachFor_13 rfl (lv_at hl 1 rfl) ?_
  refine gf_X4_breath hx hb hts hown hW (kS_in ho0) iX4 (List.mem_of_getElem? (i := 3) rfl) dX5_reachFor_14 ?_
  refine lv_iconst (v := (0 : Int32)) hx hb dX5_reachFor_17 (by decide) ?_
  obtain ⟨g2, hf⟩ := ss_if hf
  refine rs_i hx hb hW (kS_in (by decide)) g2 dX5_reachFor_18 (fun H locs hW => ?_)
  refine lv_iconst (v := (0 : Int32)) hx hb dX5_reachFor_19 (by decide) ?_
  refine lv_istore_n (lv' := [(3, .int (0 : Int32)), (0, .ref (A 0 4 0)), (1, .ref (A 0 3 o0)), (2, .int p1)]) hx hb dX5_reachFor_20 rfl hl (by decide) rfl (fun ls hl => ?_)
  have J117 : ∀ (σ117_ : ss_M) (H : Heap) (locs : List Loc) (ls : Array Slot), sW 0 D Y A σ117_ s s.heap H locs → lv_has ls 6 [(1, .ref (A 0 3 o0))] → f_X5_reachFor_j117 o0 σ117_ = some (r, σ') → W p l e rm_X5_reachFor s m args below meth c H locs 0 0 (MQ below (Qi0 0 D Y A r σ') args s 0 0 (FA 0 A)) (F0 m 117 ls []) := by
    intro σ117_ H locs ls hW hl hf
    rw [f_X5_reachFor_j117] at hf
    refine lv_aload_n hx hb dX5_reachFor_117 rfl (lv_at hl 0 rfl) ?_
    refine gf_X4_words hx hb hts hown hW (kS_in ho0) iX4 (List.mem_of_getElem? (i := 4) rfl) dX5_reachFor_118 ?_
    exact re_i hx hb hr hlocks hW (Option.some.inj hf) dX5_reachFor_121
  have L21 : ∀ (n21 : Nat), ∀ (x21_3 : Int32) (σ21_ : ss_M) (H : Heap) (locs : List Loc) (ls : Array Slot), sW 0 D Y A σ21_ s s.heap H locs → lv_has ls 6 [(0, .ref (A 0 4 0)), (1, .ref (A 0 3 o0)), (2, .int p1), (3, .int x21_3)] → f_X5_reachFor_L21 o0 p1 (f_X5_reachFor_j117 o0) n21 x21_3 σ21_ = some (r, σ') → W p l e rm_X5_reachFor s m args below meth c H locs 0 0 (MQ below (Qi0 0 D Y A r σ') args s 0 0 (FA 0 A)) (F0 m 21 ls []) := by
    intro n21
    induction n21 with
    | zero =>
      intro x21_3 σ21_ H locs ls hW hl hf
      rw [f_X5_reachFor_L21] at hf
      cases hf
    | succ n21 ih21 =>
      intro x21_3 σ21_ H locs ls hW hl hf
      rw [f_X5_reachFor_L21] at hf
      refine lv_iload_n hx hb dX5_reachFor_21 rfl (lv_at hl 3 rfl) ?_
      refine lv_aload_n hx hb dX5_reachFor_22 rfl (lv_at hl 1 rfl) ?_
      refine gf_X4_words hx hb hts hown hW (kS_in ho0) iX4 (List.mem_of_getElem? (i := 4) rfl) dX5_reachFor_23 ?_
      refine lv_icmp_ge (tgt := 117) hx hb dX5_reachFor_26 (by decide) (fun q3 => ?_) (fun q3 => ?_)
      · rw [if_pos q3] at hf
        exact J117 σ21_ _ _ _ hW (lv_sub hl [1] rfl) hf
      · rw [if_neg q3] at hf
        refine lv_aload_n hx hb dX5_reachFor_29 rfl (lv_at hl 0 rfl) ?_
        refine gf_X5_then hx hb hts hown hW (kS_in (by decide)) iX5 (List.mem_of_getElem? (i := 5) rfl) dX5_reachFor_30 ?_
        refine lv_ldc hx hb hown (hts _ (List.mem_of_getElem? (i := 2) rfl)) dX5_reachFor_33 ?_
        obtain ⟨σ4, hf4, hf⟩ := ss_bind hf
        refine rt_v S (c_J7_fill_53178 l hAD (kS_in (by decide)) hf4) (va_cwS 2 hts gX5_reachFor_J7_fill_53178 rfl rfl rfl hd_J7_fill_53178 ⟨(Nat.le_of_ble_eq_true rfl), (Nat.le_of_ble_eq_true rfl)⟩) hW rfl rfl hl.1 (Nat.le_of_ble_eq_true rfl) ⟨Nat.zero_le _, Nat.zero_le _⟩ dX5_reachFor_35 (fun H locs hW => ?_)
        refine lv_iconst (v := (0 : Int32)) hx hb dX5_reachFor_38 (by decide) ?_
        refine lv_istore (lv' := [(4, .int (0 : Int32)), (0, .ref (A 0 4 0)), (1, .ref (A 0 3 o0)), (2, .int p1), (3, .int x21_3)]) hx hb dX5_reachFor_39 hl (by decide) rfl (fun ls hl => ?_)
        refine lv_aload_n hx hb dX5_reachFor_41 rfl (lv_at hl 2 rfl) ?_
        refine gf_X4_lengths hx hb hts hown hW (kS_in ho0) iX4 (List.mem_of_getElem? (i := 6) rfl) dX5_reachFor_42 ?_
        refine lv_iload_n hx hb dX5_reachFor_45 rfl (lv_at hl 4 rfl) ?_
        obtain ⟨g5, hf⟩ := ss_if hf
        refine ra_i hx hb hW (kS_in ho0) g5 dX5_reachFor_46 ?_
        refine lv_istore (lv' := [(5, .int (sA σ4 4 o0 (x21_3).toNatClampNeg)), (4, .int (0 : Int32)), (0, .ref (A 0 4 0)), (1, .ref (A 0 3 o0)), (2, .int p1), (3, .int x21_3)]) hx hb dX5_reachFor_47 hl (by decide) rfl (fun ls hl => ?_)
        have J86 : ∀ (x86_4 : Int32) (σ86_ : ss_M) (H : Heap) (locs : List Loc) (ls : Array Slot), sW 0 D Y A σ86_ s s.heap H locs → lv_has ls 6 [(0, .ref (A 0 4 0)), (1, .ref (A 0 3 o0)), (2, .int p1), (3, .int x21_3), (4, .int x86_4)] → f_X5_reachFor_j86 x21_3 (f_X5_reachFor_L21 o0 p1 (f_X5_reachFor_j117 o0) n21) x86_4 σ86_ = some (r, σ') → W p l e rm_X5_reachFor s m args below meth c H locs 0 0 (MQ below (Qi0 0 D Y A r σ') args s 0 0 (FA 0 A)) (F0 m 86 ls []) := by
          intro x86_4 σ86_ H locs ls hW hl hf
          rw [f_X5_reachFor_j86] at hf
          refine lv_iload hx hb dX5_reachFor_86 (lv_at hl 4 rfl) ?_
          refine lv_if_ne (tgt := 93) hx hb dX5_reachFor_88 (by decide) (fun q6 => ?_) (fun q6 => ?_)
          · rw [if_neg q6] at hf
            refine lv_aload_n hx hb dX5_reachFor_93 rfl (lv_at hl 0 rfl) ?_
            refine gf_X5_then hx hb hts hown hW (kS_in (by decide)) iX5 (List.mem_of_getElem? (i := 5) rfl) dX5_reachFor_94 ?_
            refine lv_iconst (v := (0 : Int32)) hx hb dX5_reachFor_97 (by decide) ?_
            refine lv_aload_n hx hb dX5_reachFor_98 rfl (lv_at hl 0 rfl) ?_
            refine gf_X5_now hx hb hts hown hW (kS_in (by decide)) iX5 (List.mem_of_getElem? (i := 1) rfl) dX5_reachFor_99 ?_
            refine lv_iconst (v := (0 : Int32)) hx hb dX5_reachFor_102 (by decide) ?_
            refine lv_aload_n hx hb dX5_reachFor_103 rfl (lv_at hl 0 rfl) ?_
            refine gf_X5_now hx hb hts hown hW (kS_in (by decide)) iX5 (List.mem_of_getElem? (i := 1) rfl) dX5_reachFor_104 ?_
            refine rl_i (v := (31 : Int32)) hx hb hW (kS_in (by decide)) (by decide) dX5_reachFor_107 ?_
            obtain ⟨g7, hf⟩ := ss_if hf
            refine rcp hx hb hts hown (hml.trans hl.1.symm) (List.mem_of_getElem? (i := 7) rfl) (List.mem_of_getElem? (i := 8) rfl) (List.mem_of_getElem? (i := 9) rfl) (List.mem_of_getElem? (i := 10) rfl) hW (kS_in (by decide)) (kS_in (by decide)) g7 (Nat.le_of_ble_eq_true rfl) (Nat.le_of_ble_eq_true rfl) dX5_reachFor_108 (fun H locs hW => ?_)
            refine lv_iinc (v := (x21_3 + (1 : Int32))) (lv' := [(3, .int (x21_3 + (1 : Int32))), (0, .ref (A 0 4 0)), (1, .ref (A 0 3 o0)), (2, .int p1), (4, .int x86_4)]) hx hb dX5_reachFor_111 hl (k := 3) rfl rfl (by decide) rfl (fun ls hl => ?_)
            refine lv_goto (tgt := 21) hx hb dX5_reachFor_114 (by decide) ?_
            exact ih21 (x21_3 + (1 : Int32)) (sAu σ86_ 9 0 (va_cpy (sA σ86_ 10 0) (sA σ86_ 9 0) ((0 : Int32)).toNatClampNeg ((0 : Int32)).toNatClampNeg ((31 : Int32)).toNatClampNeg)) _ _ _ hW (lv_sub hl [1, 2, 3, 0] rfl) hf
          · rw [if_pos q6] at hf
            refine lv_iload_n hx hb dX5_reachFor_91 rfl (lv_at hl 3 rfl) ?_
            exact re_i hx hb hr hlocks hW (Option.some.inj hf) dX5_reachFor_92
        have L49 : ∀ (n49 : Nat), ∀ (x49_4 : Int32) (x49_5 : Int32) (σ49_ : ss_M) (H : Heap) (locs : List Loc) (ls : Array Slot), sW 0 D Y A σ49_ s s.heap H locs → lv_has ls 6 [(0, .ref (A 0 4 0)), (1, .ref (A 0 3 o0)), (2, .int p1), (3, .int x21_3), (4, .int x49_4), (5, .int x49_5)] → f_X5_reachFor_L49 o0 p1 x21_3 (f_X5_reachFor_j86 x21_3 (f_X5_reachFor_L21 o0 p1 (f_X5_reachFor_j117 o0) n21)) n49 x49_4 x49_5 σ49_ = some (r, σ') → W p l e rm_X5_reachFor s m args below meth c H locs 0 0 (MQ below (Qi0 0 D Y A r σ') args s 0 0 (FA 0 A)) (F0 m 49 ls []) := by
          intro n49
          induction n49 with
          | zero =>
            intro x49_4 x49_5 σ49_ H locs ls hW hl hf
            rw [f_X5_reachFor_L49] at hf
            cases hf
          | succ n49 ih49 =>
            intro x49_4 x49_5 σ49_ H locs ls hW hl hf
            rw [f_X5_reachFor_L49] at hf
            refine lv_iload hx hb dX5_reachFor_49 (lv_at hl 5 rfl) ?_
            refine lv_aload_n hx hb dX5_reachFor_51 rfl (lv_at hl 1 rfl) ?_
            refine gf_X4_breath hx hb hts hown hW (kS_in ho0) iX4 (List.mem_of_getElem? (i := 3) rfl) dX5_reachFor_52 ?_
            refine lv_icmp_gt (tgt := 86) hx hb dX5_reachFor_55 (by decide) (fun q8 => ?_) (fun q8 => ?_)
            · rw [if_pos q8] at hf
              exact J86 x49_4 σ49_ _ _ _ hW (lv_sub hl [0, 1, 2, 3, 4] rfl) hf
            · rw [if_neg q8] at hf
              refine lv_aload_n hx hb dX5_reachFor_58 rfl (lv_at hl 0 rfl) ?_
              refine gf_X5_now hx hb hts hown hW (kS_in (by decide)) iX5 (List.mem_of_getElem? (i := 1) rfl) dX5_reachFor_59 ?_
              refine lv_iload hx hb dX5_reachFor_62 (lv_at hl 5 rfl) ?_
              obtain ⟨g9, hf⟩ := ss_if hf
              refine ra_i hx hb hW (kS_in (by decide)) g9 dX5_reachFor_64 ?_
              refine lv_iload_n hx hb dX5_reachFor_65 rfl (lv_at hl 2 rfl) ?_
              have J80 : ∀ (x80_4 : Int32) (σ80_ : ss_M) (H : Heap) (locs : List Loc) (ls : Array Slot), sW 0 D Y A σ80_ s s.heap H locs → lv_has ls 6 [(0, .ref (A 0 4 0)), (1, .ref (A 0 3 o0)), (2, .int p1), (3, .int x21_3), (4, .int x80_4), (5, .int x49_5)] → f_X5_reachFor_j80 x49_5 (f_X5_reachFor_L49 o0 p1 x21_3 (f_X5_reachFor_j86 x21_3 (f_X5_reachFor_L21 o0 p1 (f_X5_reachFor_j117 o0) n21)) n49) x80_4 σ80_ = some (r, σ') → W p l e rm_X5_reachFor s m args below meth c H locs 0 0 (MQ below (Qi0 0 D Y A r σ') args s 0 0 (FA 0 A)) (F0 m 80 ls []) := by
                intro x80_4 σ80_ H locs ls hW hl hf
                rw [f_X5_reachFor_j80] at hf
                refine lv_iinc (v := (x49_5 + (1 : Int32))) (lv' := [(5, .int (x49_5 + (1 : Int32))), (0, .ref (A 0 4 0)), (1, .ref (A 0 3 o0)), (2, .int p1), (3, .int x21_3), (4, .int x80_4)]) hx hb dX5_reachFor_80 hl (k := 5) rfl rfl (by decide) rfl (fun ls hl => ?_)
                refine lv_goto (tgt := 49) hx hb dX5_reachFor_83 (by decide) ?_
                exact ih49 x80_4 (x49_5 + (1 : Int32)) σ80_ _ _ _ hW (lv_sub hl [1, 2, 3, 4, 5, 0] rfl) hf
              refine lv_icmp_gt (tgt := 80) hx hb dX5_reachFor_66 (by decide) (fun q10 => ?_) (fun q10 => ?_)
              · rw [if_pos q10] at hf
                exact J80 x49_4 σ49_ _ _ _ hW (lv_sub hl [0, 1, 2, 3, 4, 5] rfl) hf
              · rw [if_neg q10] at hf
                refine lv_iconst (v := (1 : Int32)) hx hb dX5_reachFor_69 (by decide) ?_
                refine lv_istore (lv' := [(4, .int (1 : Int32)), (0, .ref (A 0 4 0)), (1, .ref (A 0 3 o0)), (2, .int p1), (3, .int x21_3), (5, .int x49_5)]) hx hb dX5_reachFor_70 hl (by decide) rfl (fun ls hl => ?_)
                refine lv_aload_n hx hb dX5_reachFor_72 rfl (lv_at hl 1 rfl) ?_
                refine lv_aload_n hx hb dX5_reachFor_73 rfl (lv_at hl 2 rfl) ?_
                refine lv_iload_n hx hb dX5_reachFor_74 rfl (lv_at hl 4 rfl) ?_
                refine lv_iload hx hb dX5_reachFor_75 (lv_at hl 5 rfl) ?_
                obtain ⟨σ11, hf11, hf⟩ := ss_bind hf
                refine rv_v S (c_X5_spread l hAD ho0 hf11) (cwV 3 hts gX5_reachFor_X5_spread rfl rfl rfl hd_X5_spread ⟨(Nat.le_of_ble_eq_true rfl), (Nat.le_of_ble_eq_true rfl)⟩) hW (kS_in (by decide)) rfl rfl rfl hl.1 (Nat.le_of_ble_eq_true rfl) ⟨Nat.zero_le _, Nat.zero_le _⟩ dX5_reachFor_77 (fun H locs hW => ?_)
                exact J80 (1 : Int32) σ11 _ _ _ hW (lv_sub hl [1, 2, 3, 4, 0, 5] rfl) hf
        exact L49 FU (0 : Int32) (sA σ4 4 o0 (x21_3).toNatClampNeg) σ4 _ _ _ hW (lv_sub hl [2, 3, 4, 5, 1, 0] rfl) hf
  exact L21 FU (0 : Int32) (sAu σ1 9 0 (upd (sA σ1 9 0) ((sG σ1 3 o0)).toNatClampNeg (0 : Int32))) _ _ _ hW (lv_sub hl [1, 2, 3, 0] rfl) hf
