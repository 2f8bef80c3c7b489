def f_X8_bid_j172 (p5 : Int32) (x172_9 : Int32) (x172_10 : Int32) (σ172_ : ss_M) : Option (Int32 × ss_M) :=
  if p5 = (0 : Int32) then (some (x172_9, σ172_)) else (some (x172_10, σ172_))
def f_X8_bid_j166 (x92_11 : Int32) (kb92 : Int32 → Int32 → Int32 → ss_M → Option (Int32 × ss_M)) (x166_9 : Int32) (x166_10 : Int32) (σ166_ : ss_M) : Option (Int32 × ss_M) :=
  kb92 x166_9 x166_10 (x92_11 + (1 : Int32)) σ166_
def f_X8_bid_j160 (x101_12 : Int32) (kb101 : Int32 → Int32 → Int32 → ss_M → Option (Int32 × ss_M)) (x160_9 : Int32) (x160_10 : Int32) (σ160_ : ss_M) : Option (Int32 × ss_M) :=
  kb101 x160_9 x160_10 (x101_12 + (1 : Int32)) σ160_
def f_X8_bid_j155 (x101_9 : Int32) (x101_12 : Int32) (kb101 : Int32 → Int32 → Int32 → ss_M → Option (Int32 × ss_M)) (s155_0 : Int32) (σ155_ : ss_M) : Option (Int32 × ss_M) :=
  f_X8_bid_j160 x101_12 kb101 (x101_9 + (1 : Int32)) s155_0 σ155_
def f_X8_bid_L101 (p1 : Int32) (p2 : Int32) (p3 : Int32) (p4 : Int32) (r3 : Int32) (x92_11 : Int32) (k101_166 : Int32 → Int32 → ss_M → Option (Int32 × ss_M)) : Nat → Int32 → Int32 → Int32 → ss_M → Option (Int32 × ss_M)
  | 0, _, _, _, _ => none
  | n101 + 1, x101_9, x101_10, x101_12, σ101_ => if p2 < x101_12 then (k101_166 x101_9 x101_10 σ101_) else (ss_bd (f_X8_rests x92_11 x101_12 p3 r3 p1 σ101_) (fun r7 σ7 => if r7 = (0 : Int32) then (f_X8_bid_j160 x101_12 (f_X8_bid_L101 p1 p2 p3 p4 r3 x92_11 k101_166 n101) x101_9 x101_10 σ7) else (ss_bd (f_X8_rests x101_12 x92_11 p4 r3 p2 σ7) (fun r9 σ9 => if r9 = (0 : Int32) then (f_X8_bid_j160 x101_12 (f_X8_bid_L101 p1 p2 p3 p4 r3 x92_11 k101_166 n101) x101_9 x101_10 σ9) else (if x101_9 = (0 : Int32) then (f_X8_bid_j155 x101_9 x101_12 (f_X8_bid_L101 p1 p2 p3 p4 r3 x92_11 k101_166 n101) (((100 : Int32) * x92_11) + x101_12) σ9) else (f_X8_bid_j155 x101_9 x101_12 (f_X8_bid_L101 p1 p2 p3 p4 r3 x92_11 k101_166 n101) x101_10 σ9))))))
def f_X8_bid_L92 (p1 : Int32) (p2 : Int32) (p3 : Int32) (p4 : Int32) (r3 : Int32) (k92_172 : Int32 → Int32 → ss_M → Option (Int32 × ss_M)) : Nat → Int32 → Int32 → Int32 → ss_M → Option (Int32 × ss_M)
  | 0, _, _, _, _ => none
  | n92 + 1, x92_9, x92_10, x92_11, σ92_ => if p1 < x92_11 then (k92_172 x92_9 x92_10 σ92_) else (f_X8_bid_L101 p1 p2 p3 p4 r3 x92_11 (f_X8_bid_j166 x92_11 (f_X8_bid_L92 p1 p2 p3 p4 r3 k92_172 n92)) FU x92_9 x92_10 (0 : Int32) σ92_)
def f_X8_bid_j64 (p0 : Int32) (p1 : Int32) (p2 : Int32) (p3 : Int32) (p4 : Int32) (p5 : Int32) (s64_0 : Int32) (σ64_ : ss_M) : Option (Int32 × ss_M) :=
  if s64_0 = (0 : Int32) then (ss_bd (f_X8_ten σ64_) (fun r12 σ12 => some (r12, σ12))) else (ss_bd (f_X8_costOf p0 σ64_) (fun r3 σ3 => f_X8_bid_L92 p1 p2 p3 p4 r3 (f_X8_bid_j172 p5) FU (0 : Int32) (-1 : Int32) (0 : Int32) σ3))
def f_X8_bid_j63 (p0 : Int32) (p1 : Int32) (p2 : Int32) (p3 : Int32) (p4 : Int32) (p5 : Int32) (σ63_ : ss_M) : Option (Int32 × ss_M) :=
  f_X8_bid_j64 p0 p1 p2 p3 p4 p5 (0 : Int32) σ63_
def f_X8_bid (p0 : Int32) (p1 : Int32) (p2 : Int32) (p3 : Int32) (p4 : Int32) (p5 : Int32) (σ : ss_M) : Option (Int32 × ss_M) :=
  ss_bd (f_X8_isKind p0 σ) (fun r1 σ1 => if r1 = (0 : Int32) then (f_X8_bid_j63 p0 p1 p2 p3 p4 p5 σ1) else (ss_bd (f_X8_in p1 (0 : Int32) (20 : Int32) σ1) (fun r14 σ14 => if r14 = (0 : Int32) then (f_X8_bid_j63 p0 p1 p2 p3 p4 p5 σ14) else (ss_bd (f_X8_in p2 (0 : Int32) (20 : Int32) σ14) (fun r16 σ16 => if r16 = (0 : Int32) then (f_X8_bid_j63 p0 p1 p2 p3 p4 p5 σ16) else (ss_bd (f_X8_in p3 (0 : Int32) (20 : Int32) σ16) (fun r18 σ18 => if r18 = (0 : Int32) then (f_X8_bid_j63 p0 p1 p2 p3 p4 p5 σ18) else (ss_bd (f_X8_in p4 (0 : Int32) (20 : Int32) σ18) (fun r20 σ20 => if r20 = (0 : Int32) then (f_X8_bid_j63 p0 p1 p2 p3 p4 p5 σ20) else (ss_bd (f_X8_in p5 (0 : Int32) (1 : Int32) σ20) (fun r22 σ22 => if r22 = (0 : Int32) then (f_X8_bid_j63 p0 p1 p2 p3 p4 p5 σ22) else (f_X8_bid_j64 p0 p1 p2 p3 p4 p5 (1 : Int32) σ22))))))))))))
def rm_X8_bid : Room := { frames := 4, cells := 0, slots := 0, locals := 200 }
theorem hd_X8_bid : yX8_bid.cls = RX8 ∧ yX8_bid.cls ≠ "java/lang/invoke/MethodHandle" ∧ yX8_bid.cls ≠ "java/lang/invoke/VarHandle" ∧ (parseMethodDescriptor yX8_bid.desc).map (fun d => d.parameters.length) = some 6 := by decide +kernel
set_option maxHeartbeats 4000000 in
set_option maxRecDepth 100000 in
theorem c_X8_bid (l : Launch) {D : va_G} {Y : Nat → ClassId} {A : ss_A} (hAD : AD 1 A) {p0 : Int32} {p1 : Int32} {p2 : Int32} {p3 : Int32} {p4 : Int32} {p5 : Int32}  {r : Int32} {σ σ' : ss_M} (hf : f_X8_bid p0 p1 p2 p3 p4 p5 σ = some (r, σ')) : Met l yX8_bid wsX8_bid rm_X8_bid (Pc0 1 D Y A σ [.ref (A 0 7 0), .int p0, .int p1, .int p2, .int p3, .int p4, .int p5]) (Qi0 1 D Y A r σ') 0 0 (FA 1 A) := by
  rw [f_X8_bid] at hf
  refine Met0 (cc := cX8_bid) (maxL := 13) (ret := (some .int)) (own := RX8) (by decide +kernel) rfl hAD rfl (Nat.le_of_ble_eq_true rfl) ?_
  intro p e s m args below meth c S hr hlocks hW ls hl
  obtain ⟨hx, hb, hml, hown, hts⟩ := id S
  have hl : lv_has ls 13 [(0, .ref (A 0 7 0)), (1, .int p0), (2, .int p1), (3, .int p2), (4, .int p3), (5, .int p4), (6, .int p5)] := hl
  refine lv_iload_n hx hb dX8_bid_0 rfl (lv_at hl 1 rfl) ?_
  obtain ⟨r1, σ1, hf1, hf⟩ := ss_bd_some hf
  refine rt_i S (c_X8_isKind l hAD  hf1) (va_cwS 1 hts gX8_bid_X8_isKind rfl rfl rfl hd_X8_isKind ⟨(Nat.le_of_ble_eq_true rfl), (Nat.le_of_ble_eq_true rfl)⟩) hW rfl rfl hl.1 (Nat.le_of_ble_eq_true rfl) ⟨Nat.zero_le _, Nat.zero_le _⟩ dX8_bid_1 (fun H locs hW => ?_)
  have J64 : ∀ (s64_0 : Int32) (σ64_ : ss_M) (H : Heap) (locs : List Loc) (ls : Array Slot), sW 1 D Y A σ64_ s s.heap H locs → lv_has ls 13 [(0, .ref (A 0 7 0)), (1, .int p0), (2, .int p1), (3, .int p2), (4, .int p3), (5, .int p4), (6, .int p5)] → f_X8_bid_j64 p0 p1 p2 p3 p4 p5 s64_0 σ64_ = some (r, σ') → W p l e rm_X8_bid s m args below meth c H locs 0 0 (MQ below (Qi0 1 D Y A r σ') args s 0 0 (FA 1 A)) (F0 m 64 ls [.int s64_0]) := by
    intro s64_0 σ64_ H locs ls hW hl hf
    rw [f_X8_bid_j64] at hf
    refine lv_istore (lv' := [(7, .int s64_0), (0, .ref (A 0 7 0)), (1, .int p0), (2, .int p1), (3, .int p2), (4, .int p3), (5, .int p4), (6, .int p5)]) hx hb dX8_bid_64 hl (by decide) rfl (fun ls hl => ?_)
    refine lv_iload hx hb dX8_bid_66 (lv_at hl 0 rfl) ?_
    refine lv_if_ne (tgt := 76) hx hb dX8_bid_68 (by decide) (fun q2 => ?_) (fun q2 => ?_)
    · rw [if_neg q2] at hf
      refine lv_aload_n hx hb dX8_bid_76 rfl (lv_at hl 1 rfl) ?_
      refine lv_iload_n hx hb dX8_bid_77 rfl (lv_at hl 2 rfl) ?_
      obtain ⟨r3, σ3, hf3, hf⟩ := ss_bd_some hf
      refine rv_i S (c_X8_costOf l hAD  hf3) (cwV 1 hts gX8_bid_X8_costOf rfl rfl rfl hd_X8_costOf ⟨(Nat.le_of_ble_eq_true rfl), (Nat.le_of_ble_eq_true rfl)⟩) hW (kS_in (by decide)) rfl rfl rfl hl.1 (Nat.le_of_ble_eq_true rfl) ⟨Nat.zero_le _, Nat.zero_le _⟩ dX8_bid_78 (fun H locs hW => ?_)
      refine lv_istore (lv' := [(8, .int r3), (7, .int s64_0), (0, .ref (A 0 7 0)), (1, .int p0), (2, .int p1), (3, .int p2), (4, .int p3), (5, .int p4), (6, .int p5)]) hx hb dX8_bid_81 hl (by decide) rfl (fun ls hl => ?_)
      refine lv_iconst (v := (0 : Int32)) hx hb dX8_bid_83 (by decide) ?_
      refine lv_istore (lv' := [(9, .int (0 : Int32)), (8, .int r3), (7, .int s64_0), (0, .ref (A 0 7 0)), (1, .int p0), (2, .int p1), (3, .int p2), (4, .int p3), (5, .int p4), (6, .int p5)]) hx hb dX8_bid_84 hl (by decide) rfl (fun ls hl => ?_)
      refine lv_iconst (v := (-1 : Int32)) hx hb dX8_bid_86 (by decide) ?_
      refine lv_istore (lv' := [(10, .int (-1 : Int32)), (9, .int (0 : Int32)), (8, .int r3), (7, .int s64_0), (0, .ref (A 0 7 0)), (1, .int p0), (2, .int p1), (3, .int p2), (4, .int p3), (5, .int p4), (6, .int p5)]) hx hb dX8_bid_87 hl (by decide) rfl (fun ls hl => ?_)
      refine lv_iconst (v := (0 : Int32)) hx hb dX8_bid_89 (by decide) ?_
      refine lv_istore (lv' := [(11, .int (0 : Int32)), (10, .int (-1 : Int32)), (9, .int (0 : Int32)), (8, .int r3), (7, .int s64_0), (0, .ref (A 0 7 0)), (1, .int p0), (2, .int p1), (3, .int p2), (4, .int p3), (5, .int p4), (6, .int p5)]) hx hb dX8_bid_90 hl (by decide) rfl (fun ls hl => ?_)
      have J172 : ∀ (x172_9 : Int32) (x172_10 : Int32) (σ172_ : ss_M) (H : Heap) (locs : List Loc) (ls : Array Slot), sW 1 D Y A σ172_ s s.heap H locs → lv_has ls 13 [(6, .int p5), (9, .int x172_9), (10, .int x172_10)] → f_X8_bid_j172 p5 x172_9 x172_10 σ172_ = some (r, σ') → W p l e rm_X8_bid s m args below meth c H locs 0 0 (MQ below (Qi0 1 D Y A r σ') args s 0 0 (FA 1 A)) (F0 m 172 ls []) := by
        intro x172_9 x172_10 σ172_ H locs ls hW hl hf
        rw [f_X8_bid_j172] at hf
        refine lv_iload hx hb dX8_bid_172 (lv_at hl 0 rfl) ?_
        refine lv_if_ne (tgt := 182) hx hb dX8_bid_174 (by decide) (fun q4 => ?_) (fun q4 => ?_)
        · rw [if_neg q4] at hf
          refine lv_iload hx hb dX8_bid_182 (lv_at hl 2 rfl) ?_
          exact re_i hx hb hr hlocks hW (Option.some.inj hf) dX8_bid_184
        · rw [if_pos q4] at hf
          refine lv_iload hx hb dX8_bid_177 (lv_at hl 1 rfl) ?_
          refine lv_goto (tgt := 184) hx hb dX8_bid_179 (by decide) ?_
          exact re_i hx hb hr hlocks hW (Option.some.inj hf) dX8_bid_184
      have L92 : ∀ (n92 : Nat), ∀ (x92_9 : Int32) (x92_10 : Int32) (x92_11 : Int32) (σ92_ : ss_M) (H : Heap) (locs : List Loc) (ls : Array Slot), sW 1 D Y A σ92_ s s.heap H locs → lv_has ls 13 [(2, .int p1), (3, .int p2), (4, .int p3), (5, .int p4), (6, .int p5), (8, .int r3), (9, .int x92_9), (10, .int x92_10), (11, .int x92_11)] → f_X8_bid_L92 p1 p2 p3 p4 r3 (f_X8_bid_j172 p5) n92 x92_9 x92_10 x92_11 σ92_ = some (r, σ') → W p l e rm_X8_bid s m args below meth c H locs 0 0 (MQ below (Qi0 1 D Y A r σ') args s 0 0 (FA 1 A)) (F0 m 92 ls []) := by
        intro n92
        induction n92 with
        | zero =>
          intro x92_9 x92_10 x92_11 σ92_ H locs ls hW hl hf
          rw [f_X8_bid_L92] at hf
          cases hf
        | succ n92 ih92 =>
          intro x92_9 x92_10 x92_11 σ92_ H locs ls hW hl hf
          rw [f_X8_bid_L92] at hf
          refine lv_iload hx hb dX8_bid_92 (lv_at hl 8 rfl) ?_
          refine lv_iload_n hx hb dX8_bid_94 rfl (lv_at hl 0 rfl) ?_
          refine lv_icmp_gt (tgt := 172) hx hb dX8_bid_95 (by decide) (fun q5 => ?_) (fun q5 => ?_)
          · rw [if_pos q5] at hf
            exact J172 x92_9 x92_10 σ92_ _ _ _ hW (lv_sub hl [4, 6, 7] rfl) hf
          · rw [if_neg q5] at hf
            refine lv_iconst (v := (0 : Int32)) hx hb dX8_bid_98 (by decide) ?_
            refine lv_istore (lv' := [(12, .int (0 : Int32)), (2, .int p1), (3, .int p2), (4, .int p3), (5, .int p4), (6, .int p5), (8, .int r3), (9, .int x92_9), (10, .int x92_10), (11, .int x92_11)]) hx hb dX8_bid_99 hl (by decide) rfl (fun ls hl => ?_)
            have J166 : ∀ (x166_9 : Int32) (x166_10 : Int32) (σ166_ : ss_M) (H : Heap) (locs : List Loc) (ls : Array Slot), sW 1 D Y A σ166_ s s.heap H locs → lv_has ls 13 [(2, .int p1), (3, .int p2), (4, .int p3), (5, .int p4), (6, .int p5), (8, .int r3), (9, .int x166_9), (10, .int x166_10), (11, .int x92_11)] → f_X8_bid_j166 x92_11 (f_X8_bid_L92 p1 p2 p3 p4 r3 (f_X8_bid_j172 p5) n92) x166_9 x166_10 σ166_ = some (r, σ') → W p l e rm_X8_bid s m args below meth c H locs 0 0 (MQ below (Qi0 1 D Y A r σ') args s 0 0 (FA 1 A)) (F0 m 166 ls []) := by
              intro x166_9 x166_10 σ166_ H locs ls hW hl hf
              rw [f_X8_bid_j166] at hf
              refine lv_iinc (v := (x92_11 + (1 : Int32))) (lv' := [(11, .int (x92_11 + (1 : Int32))), (2, .int p1), (3, .int p2), (4, .int p3), (5, .int p4), (6, .int p5), (8, .int r3), (9, .int x166_9), (10, .int x166_10)]) hx hb dX8_bid_166 hl (k := 8) rfl rfl (by decide) rfl (fun ls hl => ?_)
              refine lv_goto (tgt := 92) hx hb dX8_bid_169 (by decide) ?_
              exact ih92 x166_9 x166_10 (x92_11 + (1 : Int32)) σ166_ _ _ _ hW (lv_sub hl [1, 2, 3, 4, 5, 6, 7, 8, 0] rfl) hf
            have L101 : ∀ (n101 : Nat), ∀ (x101_9 : Int32) (x101_10 : Int32) (x101_12 : Int32) (σ101_ : ss_M) (H : Heap) (locs : List Loc) (ls : Array Slot), sW 1 D Y A σ101_ s s.heap H locs → lv_has ls 13 [(2, .int p1), (3, .int p2), (4, .int p3), (5, .int p4), (6, .int p5), (8, .int r3), (9, .int x101_9), (10, .int x101_10), (11, .int x92_11), (12, .int x101_12)] → f_X8_bid_L101 p1 p2 p3 p4 r3 x92_11 (f_X8_bid_j166 x92_11 (f_X8_bid_L92 p1 p2 p3 p4 r3 (f_X8_bid_j172 p5) n92)) n101 x101_9 x101_10 x101_12 σ101_ = some (r, σ') → W p l e rm_X8_bid s m args below meth c H locs 0 0 (MQ below (Qi0 1 D Y A r σ') args s 0 0 (FA 1 A)) (F0 m 101 ls []) := by
              intro n101
              induction n101 with
              | zero =>
                intro x101_9 x101_10 x101_12 σ101_ H locs ls hW hl hf
                rw [f_X8_bid_L101] at hf
                cases hf
              | succ n101 ih101 =>
                intro x101_9 x101_10 x101_12 σ101_ H locs ls hW hl hf
                rw [f_X8_bid_L101] at hf
                refine lv_iload hx hb dX8_bid_101 (lv_at hl 9 rfl) ?_
                refine lv_iload_n hx hb dX8_bid_103 rfl (lv_at hl 1 rfl) ?_
                refine lv_icmp_gt (tgt := 166) hx hb dX8_bid_104 (by decide) (fun q6 => ?_) (fun q6 => ?_)
                · rw [if_pos q6] at hf
                  exact J166 x101_9 x101_10 σ101_ _ _ _ hW (lv_sub hl [0, 1, 2, 3, 4, 5, 6, 7, 8] rfl) hf
                · rw [if_neg q6] at hf
                  refine lv_iload hx hb dX8_bid_107 (lv_at hl 8 rfl) ?_
                  refine lv_iload hx hb dX8_bid_109 (lv_at hl 9 rfl) ?_
                  refine lv_iload hx hb dX8_bid_111 (lv_at hl 2 rfl) ?_
                  refine lv_iload hx hb dX8_bid_113 (lv_at hl 5 rfl) ?_
                  refine lv_iload_n hx hb dX8_bid_115 rfl (lv_at hl 0 rfl) ?_
                  obtain ⟨r7, σ7, hf7, hf⟩ := ss_bd_some hf
                  refine rt_i S (c_X8_rests l hAD  hf7) (va_cwS 5 hts gX8_bid_X8_rests rfl rfl rfl hd_X8_rests ⟨(Nat.le_of_ble_eq_true rfl), (Nat.le_of_ble_eq_true rfl)⟩) hW rfl rfl hl.1 (Nat.le_of_ble_eq_true rfl) ⟨Nat.zero_le _, Nat.zero_le _⟩ dX8_bid_116 (fun H locs hW => ?_)
                  have J160 : ∀ (x160_9 : Int32) (x160_10 : Int32) (σ160_ : ss_M) (H : Heap) (locs : List Loc) (ls : Array Slot), sW 1 D Y A σ160_ s s.heap H locs → lv_has ls 13 [(2, .int p1), (3, .int p2), (4, .int p3), (5, .int p4), (6, .int p5), (8, .int r3), (9, .int x160_9), (10, .int x160_10), (11, .int x92_11), (12, .int x101_12)] → f_X8_bid_j160 x101_12 (f_X8_bid_L101 p1 p2 p3 p4 r3 x92_11 (f_X8_bid_j166 x92_11 (f_X8_bid_L92 p1 p2 p3 p4 r3 (f_X8_bid_j172 p5) n92)) n101) x160_9 x160_10 σ160_ = some (r, σ') → W p l e rm_X8_bid s m args below meth c H locs 0 0 (MQ below (Qi0 1 D Y A r σ') args s 0 0 (FA 1 A)) (F0 m 160 ls []) := by
                    intro x160_9 x160_10 σ160_ H locs ls hW hl hf
                    rw [f_X8_bid_j160] at hf
                    refine lv_iinc (v := (x101_12 + (1 : Int32))) (lv' := [(12, .int (x101_12 + (1 : Int32))), (2, .int p1), (3, .int p2), (4, .int p3), (5, .int p4), (6, .int p5), (8, .int r3), (9, .int x160_9), (10, .int x160_10), (11, .int x92_11)]) hx hb dX8_bid_160 hl (k := 9) rfl rfl (by decide) rfl (fun ls hl => ?_)
                    refine lv_goto (tgt := 101) hx hb dX8_bid_163 (by decide) ?_
                    exact ih101 x160_9 x160_10 (x101_12 + (1 : Int32)) σ160_ _ _ _ hW (lv_sub hl [1, 2, 3, 4, 5, 6, 7, 8, 9, 0] rfl) hf
                  refine lv_if_eq (tgt := 160) hx hb dX8_bid_119 (by decide) (fun q8 => ?_) (fun q8 => ?_)
                  · rw [if_pos q8] at hf
                    exact J160 x101_9 x101_10 σ7 _ _ _ hW (lv_sub hl [0, 1, 2, 3, 4, 5, 6, 7, 8, 9] rfl) hf
                  · rw [if_neg q8] at hf
                    refine lv_iload hx hb dX8_bid_122 (lv_at hl 9 rfl) ?_
                    refine lv_iload hx hb dX8_bid_124 (lv_at hl 8 rfl) ?_
                    refine lv_iload hx hb dX8_bid_126 (lv_at hl 3 rfl) ?_
                    refine lv_iload hx hb dX8_bid_128 (lv_at hl 5 rfl) ?_
                    refine lv_iload_n hx hb dX8_bid_130 rfl (lv_at hl 1 rfl) ?_
                    obtain ⟨r9, σ9, hf9, hf⟩ := ss_bd_some hf
                    refine rt_i S (c_X8_rests l hAD  hf9) (va_cwS 5 hts gX8_bid_X8_rests rfl rfl rfl hd_X8_rests ⟨(Nat.le_of_ble_eq_true rfl), (Nat.le_of_ble_eq_true rfl)⟩) hW rfl rfl hl.1 (Nat.le_of_ble_eq_true rfl) ⟨Nat.zero_le _, Nat.zero_le _⟩ dX8_bid_131 (fun H locs hW => ?_)
                    refine lv_if_eq (tgt := 160) hx hb dX8_bid_134 (by decide) (fun q10 => ?_) (fun q10 => ?_)
                    · rw [if_pos q10] at hf
                      exact J160 x101_9 x101_10 σ9 _ _ _ hW (lv_sub hl [0, 1, 2, 3, 4, 5, 6, 7, 8, 9] rfl) hf
                    · rw [if_neg q10] at hf
                      refine lv_iload hx hb dX8_bid_137 (lv_at hl 6 rfl) ?_
                      have J155 : ∀ (s155_0 : Int32) (σ155_ : ss_M) (H : Heap) (locs : List Loc) (ls : Array Slot), sW 1 D Y A σ155_ s s.heap H locs → lv_has ls 13 [(2, .int p1), (3, .int p2), (4, .int p3), (5, .int p4), (6, .int p5), (8, .int r3), (9, .int x101_9), (11, .int x92_11), (12, .int x101_12)] → f_X8_bid_j155 x101_9 x101_12 (f_X8_bid_L101 p1 p2 p3 p4 r3 x92_11 (f_X8_bid_j166 x92_11 (f_X8_bid_L92 p1 p2 p3 p4 r3 (f_X8_bid_j172 p5) n92)) n101) s155_0 σ155_ = some (r, σ') → W p l e rm_X8_bid s m args below meth c H locs 0 0 (MQ below (Qi0 1 D Y A r σ') args s 0 0 (FA 1 A)) (F0 m 155 ls [.int s155_0]) := by
                        intro s155_0 σ155_ H locs ls hW hl hf
                        rw [f_X8_bid_j155] at hf
                        refine lv_istore (lv' := [(10, .int s155_0), (2, .int p1), (3, .int p2), (4, .int p3), (5, .int p4), (6, .int p5), (8, .int r3), (9, .int x101_9), (11, .int x92_11), (12, .int x101_12)]) hx hb dX8_bid_155 hl (by decide) rfl (fun ls hl => ?_)
                        refine lv_iinc (v := (x101_9 + (1 : Int32))) (lv' := [(9, .int (x101_9 + (1 : Int32))), (10, .int s155_0), (2, .int p1), (3, .int p2), (4, .int p3), (5, .int p4), (6, .int p5), (8, .int r3), (11, .int x92_11), (12, .int x101_12)]) hx hb dX8_bid_157 hl (k := 7) rfl rfl (by decide) rfl (fun ls hl => ?_)
                        exact J160 (x101_9 + (1 : Int32)) s155_0 σ155_ _ _ _ hW (lv_sub hl [2, 3, 4, 5, 6, 7, 0, 1, 8, 9] rfl) hf
                      refine lv_if_ne (tgt := 153) hx hb dX8_bid_139 (by decide) (fun q11 => ?_) (fun q11 => ?_)
                      · rw [if_neg q11] at hf
                        refine lv_iload hx hb dX8_bid_153 (lv_at hl 7 rfl) ?_
                        exact J155 x101_10 σ9 _ _ _ hW (lv_sub hl [0, 1, 2, 3, 4, 5, 6, 8, 9] rfl) hf
                      · rw [if_pos q11] at hf
                        refine lv_bipush (v := (100 : Int32)) hx hb dX8_bid_142 (by decide) ?_
                        refine lv_iload hx hb dX8_bid_144 (lv_at hl 8 rfl) ?_
                        refine lv_imul hx hb dX8_bid_146 ?_
                        refine lv_iload hx hb dX8_bid_147 (lv_at hl 9 rfl) ?_
                        refine lv_iadd hx hb dX8_bid_149 ?_
                        refine lv_goto (tgt := 155) hx hb dX8_bid_150 (by decide) ?_
                        exact J155 (((100 : Int32) * x92_11) + x101_12) σ9 _ _ _ hW (lv_sub hl [0, 1, 2, 3, 4, 5, 6, 8, 9] rfl) hf
            exact L101 FU x92_9 x92_10 (0 : Int32) σ92_ _ _ _ hW (lv_sub hl [1, 2, 3, 4, 5, 6, 7, 8, 9, 0] rfl) hf
      exact L92 FU (0 : Int32) (-1 : Int32) (0 : Int32) σ3 _ _ _ hW (lv_sub hl [7, 8, 9, 10, 11, 3, 2, 1, 0] rfl) hf
    · rw [if_pos q2] at hf
      refine lv_aload_n hx hb dX8_bid_71 rfl (lv_at hl 1 rfl) ?_
      obtain ⟨r12, σ12, hf12, hf⟩ := ss_bd_some hf
      refine rv_i S (c_X8_ten l hAD  hf12) (cwV 0 hts gX8_bid_X8_ten rfl rfl rfl hd_X8_ten ⟨(Nat.le_of_ble_eq_true rfl), (Nat.le_of_ble_eq_true rfl)⟩) hW (kS_in (by decide)) rfl rfl rfl hl.1 (Nat.le_of_ble_eq_true rfl) ⟨Nat.zero_le _, Nat.zero_le _⟩ dX8_bid_72 (fun H locs hW => ?_)
      exact re_i hx hb hr hlocks hW (Option.some.inj hf) dX8_bid_75
  have J63 : ∀ (σ63_ : ss_M) (H : Heap) (locs : List Loc) (ls : Array Slot), sW 1 D Y A σ63_ s s.heap H locs → lv_has ls 13 [(0, .ref (A 0 7 0)), (1, .int p0), (2, .int p1), (3, .int p2), (4, .int p3), (5, .int p4), (6, .int p5)] → f_X8_bid_j63 p0 p1 p2 p3 p4 p5 σ63_ = some (r, σ') → W p l e rm_X8_bid s m args below meth c H locs 0 0 (MQ below (Qi0 1 D Y A r σ') args s 0 0 (FA 1 A)) (F0 m 63 ls []) := by
    intro σ63_ H locs ls hW hl hf
    rw [f_X8_bid_j63] at hf
    refine lv_iconst (v := (0 : Int32)) hx hb dX8_bid_63 (by decide) ?_
    exact J64 (0 : Int32) σ63_ _ _ _ hW (lv_sub hl [0, 1, 2, 3, 4, 5, 6] rfl) hf
  refine lv_if_eq (tgt := 63) hx hb dX8_bid_4 (by decide) (fun q13 => ?_) (fun q13 => ?_)
  · rw [if_pos q13] at hf
    exact J63 σ1 _ _ _ hW (lv_sub hl [0, 1, 2, 3, 4, 5, 6] rfl) hf
  · rw [if_neg q13] at hf
    refine lv_iload_n hx hb dX8_bid_7 rfl (lv_at hl 2 rfl) ?_
    refine lv_iconst (v := (0 : Int32)) hx hb dX8_bid_8 (by decide) ?_
    refine lv_bipush (v := (20 : Int32)) hx hb dX8_bid_9 (by decide) ?_
    obtain ⟨r14, σ14, hf14, hf⟩ := ss_bd_some hf
    refine rt_i S (c_X8_in l hAD  hf14) (va_cwS 3 hts gX8_bid_X8_in rfl rfl rfl hd_X8_in ⟨(Nat.le_of_ble_eq_true rfl), (Nat.le_of_ble_eq_true rfl)⟩) hW rfl rfl hl.1 (Nat.le_of_ble_eq_true rfl) ⟨Nat.zero_le _, Nat.zero_le _⟩ dX8_bid_11 (fun H locs hW => ?_)
    refine lv_if_eq (tgt := 63) hx hb dX8_bid_14 (by decide) (fun q15 => ?_) (fun q15 => ?_)
    · rw [if_pos q15] at hf
      exact J63 σ14 _ _ _ hW (lv_sub hl [0, 1, 2, 3, 4, 5, 6] rfl) hf
    · rw [if_neg q15] at hf
      refine lv_iload_n hx hb dX8_bid_17 rfl (lv_at hl 3 rfl) ?_
      refine lv_iconst (v := (0 : Int32)) hx hb dX8_bid_18 (by decide) ?_
      refine lv_bipush (v := (20 : Int32)) hx hb dX8_bid_19 (by decide) ?_
      obtain ⟨r16, σ16, hf16, hf⟩ := ss_bd_some hf
      refine rt_i S (c_X8_in l hAD  hf16) (va_cwS 3 hts gX8_bid_X8_in rfl rfl rfl hd_X8_in ⟨(Nat.le_of_ble_eq_true rfl), (Nat.le_of_ble_eq_true rfl)⟩) hW rfl rfl hl.1 (Nat.le_of_ble_eq_true rfl) ⟨Nat.zero_le _, Nat.zero_le _⟩ dX8_bid_21 (fun H locs hW => ?_)
      refine lv_if_eq (tgt := 63) hx hb dX8_bid_24 (by decide) (fun q17 => ?_) (fun q17 => ?_)
      · rw [if_pos q17] at hf
        exact J63 σ16 _ _ _ hW (lv_sub hl [0, 1, 2, 3, 4, 5, 6] rfl) hf
      · rw [if_neg q17] at hf
        refine lv_iload hx hb dX8_bid_27 (lv_at hl 4 rfl) ?_
        refine lv_iconst (v := (0 : Int32)) hx hb dX8_bid_29 (by decide) ?_
        refine lv_bipush (v := (20 : Int32)) hx hb dX8_bid_30 (by decide) ?_
        obtain ⟨r18, σ18, hf18, hf⟩ := ss_bd_some hf
        refine rt_i S (c_X8_in l hAD  hf18) (va_cwS 3 hts gX8_bid_X8_in rfl rfl rfl hd_X8_in ⟨(Nat.le_of_ble_eq_true rfl), (Nat.le_of_ble_eq_true rfl)⟩) hW rfl rfl hl.1 (Nat.le_of_ble_eq_true rfl) ⟨Nat.zero_le _, Nat.zero_le _⟩ dX8_bid_32 (fun H locs hW => ?_)
        refine lv_if_eq (tgt := 63) hx hb dX8_bid_35 (by decide) (fun q19 => ?_) (fun q19 => ?_)
        · rw [if_pos q19] at hf
          exact J63 σ18 _ _ _ hW (lv_sub hl [0, 1, 2, 3, 4, 5, 6] rfl) hf
        · rw [if_neg q19] at hf
          refine lv_iload hx hb dX8_bid_38 (lv_at hl 5 rfl) ?_
          refine lv_iconst (v := (0 : Int32)) hx hb dX8_bid_40 (by decide) ?_
          refine lv_bipush (v := (20 : Int32)) hx hb dX8_bid_41 (by decide) ?_
          obtain ⟨r20, σ20, hf20, hf⟩ := ss_bd_some hf
          refine rt_i S (c_X8_in l hAD  hf20) (va_cwS 3 hts gX8_bid_X8_in rfl rfl rfl hd_X8_in ⟨(Nat.le_of_ble_eq_true rfl), (Nat.le_of_ble_eq_true rfl)⟩) hW rfl rfl hl.1 (Nat.le_of_ble_eq_true rfl) ⟨Nat.zero_le _, Nat.zero_le _⟩ dX8_bid_43 (fun H locs hW => ?_)
          refine lv_if_eq (tgt := 63) hx hb dX8_bid_46 (by decide) (fun q21 => ?_) (fun q21 => ?_)
          · rw [if_pos q21] at hf
            exact J63 σ20 _ _ _ hW (lv_sub hl [0, 1, 2, 3, 4, 5, 6] rfl) hf
          · rw [if_neg q21] at hf
            refine lv_iload hx hb dX8_bid_49 (lv_at hl 6 rfl) ?_
            refine lv_iconst (v := (0 : Int32)) hx hb dX8_bid_51 (by decide) ?_
            refine lv_iconst (v := (1 : Int32)) hx hb dX8_bid_52 (by decide) ?_
            obtain ⟨r22, σ22, hf22, hf⟩ := ss_bd_some hf
            refine rt_i S (c_X8_in l hAD  hf22) (va_cwS 3 hts gX8_bid_X8_in rfl rfl rfl hd_X8_in ⟨(Nat.le_of_ble_eq_true rfl), (Nat.le_of_ble_eq_true rfl)⟩) hW rfl rfl hl.1 (Nat.le_of_ble_eq_true rfl) ⟨Nat.zero_le _, Nat.zero_le _⟩ dX8_bid_53 (fun H locs hW => ?_)
            refine lv_if_eq (tgt := 63) hx hb dX8_bid_56 (by decide) (fun q23 => ?_) (fun q23 => ?_)
            · rw [if_pos q23] at hf
              exact J63 σ22 _ _ _ hW (lv_sub hl [0, 1, 2, 3, 4, 5, 6] rfl) hf
            · rw [if_neg q23] at hf
              refine lv_iconst (v := (1 : Int32)) hx hb dX8_bid_59 (by decide) ?_
              refine lv_goto (tgt := 64) hx hb dX8_bid_60 (by decide) ?_
              exact J64 (1 : Int32) σ22 _ _ _ hW (lv_sub hl [0, 1, 2, 3, 4, 5, 6] rfl) hf
def f_X8_lay_j31 (p0 : Int64) (p1 : Int64) (x31_5 : Int64) (σ31_ : ss_M) : Option ss_M :=
  if ¬ x31_5 = (0 : Int64) then (if ¬ x31_5 = (0 : Int64) then (some (sLu (sLu σ31_ 2 (p0 / x31_5)) 3 (p1 / x31_5))) else none) else none
def f_X8_lay_L6 (k6_31 : Int64 → ss_M → Option ss_M) : Nat → Int64 → Int64 → ss_M → Option ss_M
  | 0, _, _, _ => none
  | n6 + 1, x6_5, x6_7, σ6_ => if (lg_cmp x6_7 (0 : Int64)) = (0 : Int32) then (k6_31 x6_5 σ6_) else (if ¬ x6_7 = (0 : Int64) then ((f_X8_lay_L6 k6_31 n6) x6_7 (x6_5 - x6_5 / x6_7 * x6_7) σ6_) else none)
def f_X8_lay (p0 : Int64) (p1 : Int64) (σ : ss_M) : Option ss_M :=
  f_X8_lay_L6 (f_X8_lay_j31 p0 p1) FU p0 p1 σ
def rm_X8_lay : Room := { frames := 0, cells := 0, slots := 0, locals := 0 }
theorem hd_X8_lay : yX8_lay.cls = RX8 ∧ yX8_lay.cls ≠ "java/lang/invoke/MethodHandle" ∧ yX8_lay.cls ≠ "java/lang/invoke/VarHandle" ∧ (parseMethodDescriptor yX8_lay.desc).map (fun d => d.parameters.length) = some 2 := by decide +kernel
set_option maxHeartbeats 4000000 in
set_option maxRecDepth 100000 in
theorem c_X8_lay (l : Launch) {D : va_G} {Y : Nat → ClassId} {A : ss_A} (hAD : AD 1 A) {p0 : Int64} {p1 : Int64}  {σ σ' : ss_M} (hf : f_X8_lay p0 p1 σ = some σ') : Met l yX8_lay wsX8_lay rm_X8_lay (Pc0 1 D Y A σ [.ref (A 0 7 0), .long p0, .long p1]) (Qv0 1 D Y A σ') 0 0 (FA 1 A) := by
  rw [f_X8_lay] at hf
  refine Met0 (cc := cX8_lay) (maxL := 11) (ret := none) (own := RX8) (by decide +kernel) rfl hAD rfl (Nat.le_of_ble_eq_true rfl) ?_
  intro p e s m args below meth c S hr hlocks hW ls hl
  obtain ⟨hx, hb, hml, hown, hts⟩ := id S
  have iX8 : ∀ q ∈ wsX80, q ∈ wsX8_lay := fun q h => List.mem_cons_of_mem _ (List.mem_append_right _ (h))
  have hl : lv_has ls 11 [(0, .ref (A 0 7 0)), (1, .long p0), (3, .long p1)] := hl
  refine lv_lload_n hx hb dX8_lay_0 rfl (lv_at hl 1 rfl) ?_
  refine lv_lstore (lv' := [(5, .long p0), (0, .ref (A 0 7 0)), (1, .long p0), (3, .long p1)]) hx hb dX8_lay_1 hl (by decide) rfl (fun ls hl => ?_)
  refine lv_lload_n hx hb dX8_lay_3 rfl (lv_at hl 3 rfl) ?_
  refine lv_lstore (lv' := [(7, .long p1), (5, .long p0), (0, .ref (A 0 7 0)), (1, .long p0), (3, .long p1)]) hx hb dX8_lay_4 hl (by decide) rfl (fun ls hl => ?_)
  have J31 : ∀ (x31_5 : Int64) (σ31_ : ss_M) (H : Heap) (locs : List Loc) (ls : Array Slot), sW 1 D Y A σ31_ s s.heap H locs → lv_has ls 11 [(0, .ref (A 0 7 0)), (1, .long p0), (3, .long p1), (5, .long x31_5)] → f_X8_lay_j31 p0 p1 x31_5 σ31_ = some σ' → W p l e rm_X8_lay s m args below meth c H locs 0 0 (MQ below (Qv0 1 D Y A σ') args s 0 0 (FA 1 A)) (F0 m 31 ls []) := by
    intro x31_5 σ31_ H locs ls hW hl hf
    rw [f_X8_lay_j31] at hf
    refine lv_aload_n hx hb dX8_lay_31 rfl (lv_at hl 0 rfl) ?_
    refine lv_lload_n hx hb dX8_lay_32 rfl (lv_at hl 1 rfl) ?_
    refine lv_lload hx hb dX8_lay_33 (lv_at hl 3 rfl) ?_
    obtain ⟨g1, hf⟩ := ss_if hf
    refine lv_ldiv hx hb dX8_lay_35 g1 ?_
    refine pf_X8_above hx hb hts hown hW (kS_in (by decide)) iX8 (List.mem_of_getElem? (i := 1) rfl) dX8_lay_36 (fun H locs hW => ?_)
    refine lv_aload_n hx hb dX8_lay_39 rfl (lv_at hl 0 rfl) ?_
    refine lv_lload_n hx hb dX8_lay_40 rfl (lv_at hl 2 rfl) ?_
    refine lv_lload hx hb dX8_lay_41 (lv_at hl 3 rfl) ?_
    obtain ⟨g2, hf⟩ := ss_if hf
    refine lv_ldiv hx hb dX8_lay_43 g2 ?_
    refine pf_X8_below hx hb hts hown hW (kS_in (by decide)) iX8 (List.mem_of_getElem? (i := 2) rfl) dX8_lay_44 (fun H locs hW => ?_)
    exact re_v hx hb hr hlocks hW (Option.some.inj hf) dX8_lay_47
  have L6 : ∀ (n6 : Nat), ∀ (x6_5 : Int64) (x6_7 : Int64) (σ6_ : ss_M) (H : Heap) (locs : List Loc) (ls : Array Slot), sW 1 D Y A σ6_ s s.heap H locs → lv_has ls 11 [(0, .ref (A 0 7 0)), (1, .long p0), (3, .long p1), (5, .long x6_5), (7, .long x6_7)] → f_X8_lay_L6 (f_X8_lay_j31 p0 p1) n6 x6_5 x6_7 σ6_ = some σ' → W p l e rm_X8_lay s m args below meth c H locs 0 0 (MQ below (Qv0 1 D Y A σ') args s 0 0 (FA 1 A)) (F0 m 6 ls []) := by
    intro n6
    induction n6 with
    | zero =>
      intro x6_5 x6_7 σ6_ H locs ls hW hl hf
      rw [f_X8_lay_L6] at hf
      cases hf
    | succ n6 ih6 =>
      intro x6_5 x6_7 σ6_ H locs ls hW hl hf
      rw [f_X8_lay_L6] at hf
      refine lv_lload hx hb dX8_lay_6 (lv_at hl 4 rfl) ?_
      refine lv_lconst (v := (0 : Int64)) hx hb dX8_lay_8 (by decide) ?_
      refine W.lcmp hx hb dX8_lay_9 ?_
      refine lv_if_eq (tgt := 31) hx hb dX8_lay_10 (by decide) (fun q3 => ?_) (fun q3 => ?_)
      · rw [if_pos q3] at hf
        exact J31 x6_5 σ6_ _ _ _ hW (lv_sub hl [0, 1, 2, 3] rfl) hf
      · rw [if_neg q3] at hf
        refine lv_lload hx hb dX8_lay_13 (lv_at hl 3 rfl) ?_
        refine lv_lload hx hb dX8_lay_15 (lv_at hl 4 rfl) ?_
        obtain ⟨g4, hf⟩ := ss_if hf
        refine lv_lrem hx hb dX8_lay_17 g4 ?_
        refine lv_lstore (lv' := [(9, .long (x6_5 - x6_5 / x6_7 * x6_7)), (0, .ref (A 0 7 0)), (1, .long p0), (3, .long p1), (5, .long x6_5), (7, .long x6_7)]) hx hb dX8_lay_18 hl (by decide) rfl (fun ls hl => ?_)
        refine lv_lload hx hb dX8_lay_20 (lv_at hl 5 rfl) ?_
        refine lv_lstore (lv' := [(5, .long x6_7), (9, .long (x6_5 - x6_5 / x6_7 * x6_7)), (0, .ref (A 0 7 0)), (1, .long p0), (3, .long p1), (7, .long x6_7)]) hx hb dX8_lay_22 hl (by decide) rfl (fun ls hl => ?_)
        refine lv_lload hx hb dX8_lay_24 (lv_at hl 1 rfl) ?_
        refine lv_lstore (lv' := [(7, .long (x6_5 - x6_5 / x6_7 * x6_7)), (5, .long x6_7), (9, .long (x6_5 - x6_5 / x6_7 * x6_7)), (0, .ref (A 0 7 0)), (1, .long p0), (3, .long p1)]) hx hb dX8_lay_26 hl (by decide) rfl (fun ls hl => ?_)
        refine lv_goto (tgt := 6) hx hb dX8_lay_28 (by decide) ?_
        exact ih6 x6_7 (x6_5 - x6_5 / x6_7 * x6_7) σ6_ _ _ _ hW (lv_sub hl [3, 4, 5, 1, 0] rfl) hf
  exact L6 FU p0 p1 σ _ _ _ hW (lv_sub hl [2, 3, 4, 1, 0] rfl) hf
def f_X8_odds_j307 (x276_2 : Int64) (x307_4 : Int64) (σ307_ : ss_M) : Option (Int32 × ss_M) :=
  Option.bind (f_X8_lay x307_4 x276_2 σ307_) (fun σ3 => some ((1 : Int32), σ3))
def f_X8_odds_L282 (k282_307 : Int64 → ss_M → Option (Int32 × ss_M)) : Nat → Int64 → Int32 → ss_M → Option (Int32 × ss_M)
  | 0, _, _, _ => none
  | n282 + 1, x282_4, x282_6, σ282_ => if (30 : Int32) < x282_6 then (k282_307 x282_4 σ282_) else (if gd x282_6 31 = true then ((f_X8_odds_L282 k282_307 n282) (x282_4 + (sB σ282_ 2 (x282_6).toNatClampNeg)) (x282_6 + (1 : Int32)) σ282_) else none)
def f_X8_odds_j276 (x276_2 : Int64) (σ276_ : ss_M) : Option (Int32 × ss_M) :=
  f_X8_odds_L282 (f_X8_odds_j307 x276_2) FU (0 : Int64) (0 : Int32) σ276_
def f_X8_odds_j268 (x53_2 : Int64) (x53_4 : Int32) (kb53 : Int64 → Int32 → ss_M → Option (Int32 × ss_M)) (s268_0 : Int64) (σ268_ : ss_M) : Option (Int32 × ss_M) :=
  kb53 (x53_2 * s268_0) (x53_4 + (1 : Int32)) σ268_
def f_X8_odds_j255 (x53_2 : Int64) (x53_4 : Int32) (kb53 : Int64 → Int32 → ss_M → Option (Int32 × ss_M)) (s102_0 : Int32) (σ255_ : ss_M) : Option (Int32 × ss_M) :=
  if s102_0 = (0 : Int32) then (f_X8_odds_j268 x53_2 x53_4 kb53 (1 : Int64) σ255_) else (f_X8_odds_j268 x53_2 x53_4 kb53 (10 : Int64) σ255_)
def f_X8_odds_L228 (k228_255 : ss_M → Option (Int32 × ss_M)) : Nat → Int32 → ss_M → Option (Int32 × ss_M)
  | 0, _, _ => none
  | n228 + 1, x228_6, σ228_ => if (30 : Int32) < x228_6 then (k228_255 σ228_) else (if gd x228_6 31 = true then (if gd x228_6 31 = true then ((f_X8_odds_L228 k228_255 n228) (x228_6 + (1 : Int32)) (sBu σ228_ 2 (vp_updL (sB σ228_ 2) (x228_6).toNatClampNeg (sB σ228_ 3 (x228_6).toNatClampNeg)))) else none) else none)
def f_X8_odds_j225 (x53_2 : Int64) (x53_4 : Int32) (kb53 : Int64 → Int32 → ss_M → Option (Int32 × ss_M)) (s102_0 : Int32) (σ225_ : ss_M) : Option (Int32 × ss_M) :=
  f_X8_odds_L228 (f_X8_odds_j255 x53_2 x53_4 kb53 s102_0) FU (0 : Int32) σ225_
def f_X8_odds_j217 (x113_6 : Int32) (kb113 : Int32 → ss_M → Option (Int32 × ss_M)) (r16 : Int32) (σm19 : ss_M) (s217_0 : Int64) (σ217_ : ss_M) : Option (Int32 × ss_M) :=
  if gd r16 31 = true then (kb113 (x113_6 + (1 : Int32)) (sBu σ217_ 3 (vp_updL (sB σ217_ 3) (r16).toNatClampNeg ((sB σm19 3 (r16).toNatClampNeg) + s217_0)))) else none
def f_X8_odds_j185 (p0 : Int32) (x53_4 : Int32) (s102_0 : Int32) (x113_6 : Int32) (σ113_ : ss_M) (kb113 : Int32 → ss_M → Option (Int32 × ss_M)) (r16 : Int32) (σ16 : ss_M) (s185_0 : Int64) (σ185_ : ss_M) : Option (Int32 × ss_M) :=
  if gd (x113_6 - (sA σ113_ 17 0 (x53_4).toNatClampNeg)) 31 = true then (ss_let (sBu σ185_ 3 (vp_updL (sB σ185_ 3) ((x113_6 - (sA σ113_ 17 0 (x53_4).toNatClampNeg))).toNatClampNeg ((sB σ16 3 ((x113_6 - (sA σ113_ 17 0 (x53_4).toNatClampNeg))).toNatClampNeg) + s185_0))) (fun σm19 => if gd r16 31 = true then (if s102_0 = (0 : Int32) then (f_X8_odds_j217 x113_6 kb113 r16 σm19 (0 : Int64) σm19) else (if gd x113_6 31 = true then (f_X8_odds_j217 x113_6 kb113 r16 σm19 ((sB σm19 2 (x113_6).toNatClampNeg) * (((10 : Int32) - p0)).toInt64) σm19) else none)) else none)) else none
def f_X8_odds_L113 (p0 : Int32) (x53_4 : Int32) (s102_0 : Int32) (k113_225 : ss_M → Option (Int32 × ss_M)) : Nat → Int32 → ss_M → Option (Int32 × ss_M)
  | 0, _, _ => none
  | n113 + 1, x113_6, σ113_ => if (sG σ113_ 18 0) < x113_6 then (k113_225 σ113_) else (if gd x53_4 12 = true then (if gd x53_4 12 = true then (ss_bd (f_X8_givenBy (sA σ113_ 18 0 (x53_4).toNatClampNeg) (x113_6 - (sA σ113_ 17 0 (x53_4).toNatClampNeg)) (sG σ113_ 18 0) σ113_) (fun r16 σ16 => if gd (x113_6 - (sA σ113_ 17 0 (x53_4).toNatClampNeg)) 31 = true then (if s102_0 = (0 : Int32) then (if gd x113_6 31 = true then (f_X8_odds_j185 p0 x53_4 s102_0 x113_6 σ113_ (f_X8_odds_L113 p0 x53_4 s102_0 k113_225 n113) r16 σ16 (sB σ16 2 (x113_6).toNatClampNeg) σ16) else none) else (if gd x113_6 31 = true then (f_X8_odds_j185 p0 x53_4 s102_0 x113_6 σ113_ (f_X8_odds_L113 p0 x53_4 s102_0 k113_225 n113) r16 σ16 ((sB σ16 2 (x113_6).toNatClampNeg) * (p0).toInt64) σ16) else none)) else none)) else none) else none)
def f_X8_odds_j102 (p0 : Int32) (x53_2 : Int64) (x53_4 : Int32) (kb53 : Int64 → Int32 → ss_M → Option (Int32 × ss_M)) (s102_0 : Int32) (σ102_ : ss_M) : Option (Int32 × ss_M) :=
  if gd x53_4 12 = true then (f_X8_odds_L113 p0 x53_4 s102_0 (f_X8_odds_j225 x53_2 x53_4 kb53 s102_0) FU (sA σ102_ 17 0 (x53_4).toNatClampNeg) σ102_) else none
def f_X8_odds_j86 (p0 : Int32) (x53_2 : Int64) (x53_4 : Int32) (kb53 : Int64 → Int32 → ss_M → Option (Int32 × ss_M)) (σ86_ : ss_M) : Option (Int32 × ss_M) :=
  if gd x53_4 12 = true then (if (sA σ86_ 18 0 (x53_4).toNatClampNeg) = (-1 : Int32) then (f_X8_odds_j102 p0 x53_2 x53_4 kb53 (0 : Int32) σ86_) else (f_X8_odds_j102 p0 x53_2 x53_4 kb53 (1 : Int32) σ86_)) else none
def f_X8_odds_L65 (k65_86 : ss_M → Option (Int32 × ss_M)) : Nat → Int32 → ss_M → Option (Int32 × ss_M)
  | 0, _, _ => none
  | n65 + 1, x65_5, σ65_ => if (30 : Int32) < x65_5 then (k65_86 σ65_) else (if gd x65_5 31 = true then ((f_X8_odds_L65 k65_86 n65) (x65_5 + (1 : Int32)) (sBu σ65_ 3 (vp_updL (sB σ65_ 3) (x65_5).toNatClampNeg (0 : Int64)))) else none)
def f_X8_odds_L53 (p0 : Int32) (k53_276 : Int64 → ss_M → Option (Int32 × ss_M)) : Nat → Int64 → Int32 → ss_M → Option (Int32 × ss_M)
  | 0, _, _, _ => none
  | n53 + 1, x53_2, x53_4, σ53_ => if (sG σ53_ 17 0) ≤ x53_4 then (k53_276 x53_2 σ53_) else (f_X8_odds_L65 (f_X8_odds_j86 p0 x53_2 x53_4 (f_X8_odds_L53 p0 k53_276 n53)) FU (0 : Int32) σ53_)
def f_X8_odds_j48 (p0 : Int32) (σ48_ : ss_M) : Option (Int32 × ss_M) :=
  f_X8_odds_L53 p0 (f_X8_odds_j276) FU (1 : Int64) (0 : Int32) σ48_
def f_X8_odds_j41 (x17_2 : Int32) (kb17 : Int32 → ss_M → Option (Int32 × ss_M)) (s41_0 : Int64) (σ41_ : ss_M) : Option (Int32 × ss_M) :=
  if gd x17_2 31 = true then (kb17 (x17_2 + (1 : Int32)) (sBu σ41_ 2 (vp_updL (sB σ41_ 2) (x17_2).toNatClampNeg s41_0))) else none
def f_X8_odds_L17 (k17_48 : ss_M → Option (Int32 × ss_M)) : Nat → Int32 → ss_M → Option (Int32 × ss_M)
  | 0, _, _ => none
  | n17 + 1, x17_2, σ17_ => if (30 : Int32) < x17_2 then (k17_48 σ17_) else (if x17_2 = (sG σ17_ 18 0) then (f_X8_odds_j41 x17_2 (f_X8_odds_L17 k17_48 n17) (1 : Int64) σ17_) else (f_X8_odds_j41 x17_2 (f_X8_odds_L17 k17_48 n17) (0 : Int64) σ17_))
def f_X8_odds (p0 : Int32) (σ : ss_M) : Option (Int32 × ss_M) :=
  ss_bd (f_X8_in p0 (0 : Int32) (10 : Int32) σ) (fun r1 σ1 => if r1 = (0 : Int32) then (ss_bd (f_X8_bad σ1) (fun r33 σ33 => some (r33, σ33))) else (f_X8_odds_L17 (f_X8_odds_j48 p0) FU (0 : Int32) σ1))
def rm_X8_odds : Room := { frames := 4, cells := 0, slots := 0, locals := 200 }
theorem hd_X8_odds : yX8_odds.cls = RX8 ∧ yX8_odds.cls ≠ "java/lang/invoke/MethodHandle" ∧ yX8_odds.cls ≠ "java/lang/invoke/VarHandle" ∧ (parseMethodDescriptor yX8_odds.desc).map (fun d => d.parameters.length) = some 1 := by decide +kernel
set_option maxHeartbeats 4000000 in
set_option maxRecDepth 100000 in
theorem c_X8_odds (l : Launch) {D : va_G} {Y : Nat → ClassId} {A : ss_A} (hAD : AD 1 A) {p0 : Int32}  {r : Int32} {σ σ' : ss_M} (hf : f_X8_odds p0 σ = some (r, σ')) : Met l yX8_odds wsX8_odds rm_X8_odds (Pc0 1 D Y A σ [.ref (A 0 7 0), .int p0]) (Qi0 1 D Y A r σ') 0 0 (FA 1 A) := by
  rw [f_X8_odds] at hf
  refine Met0 (cc := cX8_odds) (maxL := 9) (ret := (some .int)) (own := RX8) (by decide +kernel) rfl hAD rfl (Nat.le_of_ble_eq_true rfl) ?_
  intro p e s m args below meth c S hr hlocks hW ls hl
  obtain ⟨hx, hb, hml, hown, hts⟩ := id S
  have iX8 : ∀ q ∈ wsX80, q ∈ wsX8_odds := fun q h => List.mem_cons_of_mem _ (List.mem_append_right _ (h))
  have hl : lv_has ls 9 [(0, .ref (A 0 7 0)), (1, .int p0)] := hl
  refine lv_iload_n hx hb dX8_odds_0 rfl (lv_at hl 1 rfl) ?_
  refine lv_iconst (v := (0 : Int32)) hx hb dX8_odds_1 (by decide) ?_
  refine lv_bipush (v := (10 : Int32)) hx hb dX8_odds_2 (by decide) ?_
  obtain ⟨r1, σ1, hf1, hf⟩ := ss_bd_some hf
  refine rt_i S (c_X8_in l hAD  hf1) (va_cwS 3 hts gX8_odds_X8_in rfl rfl rfl hd_X8_in ⟨(Nat.le_of_ble_eq_true rfl), (Nat.le_of_ble_eq_true rfl)⟩) hW rfl rfl hl.1 (Nat.le_of_ble_eq_true rfl) ⟨Nat.zero_le _, Nat.zero_le _⟩ dX8_odds_4 (fun H locs hW => ?_)
  refine lv_if_ne (tgt := 15) hx hb dX8_odds_7 (by decide) (fun q2 => ?_) (fun q2 => ?_)
  · rw [if_neg q2] at hf
    refine lv_iconst (v := (0 : Int32)) hx hb dX8_odds_15 (by decide) ?_
    refine lv_istore_n (lv' := [(2, .int (0 : Int32)), (0, .ref (A 0 7 0)), (1, .int p0)]) hx hb dX8_odds_16 rfl hl (by decide) rfl (fun ls hl => ?_)
    have J48 : ∀ (σ48_ : ss_M) (H : Heap) (locs : List Loc) (ls : Array Slot), sW 1 D Y A σ48_ s s.heap H locs → lv_has ls 9 [(0, .ref (A 0 7 0)), (1, .int p0)] → f_X8_odds_j48 p0 σ48_ = some (r, σ') → W p l e rm_X8_odds s m args below meth c H locs 0 0 (MQ below (Qi0 1 D Y A r σ') args s 0 0 (FA 1 A)) (F0 m 48 ls []) := by
      intro σ48_ H locs ls hW hl hf
      rw [f_X8_odds_j48] at hf
      refine lv_lconst (v := (1 : Int64)) hx hb dX8_odds_48 (by decide) ?_
      refine lv_lstore_n (lv' := [(2, .long (1 : Int64)), (0, .ref (A 0 7 0)), (1, .int p0)]) hx hb dX8_odds_49 rfl hl (by decide) rfl (fun ls hl => ?_)
      refine lv_iconst (v := (0 : Int32)) hx hb dX8_odds_50 (by decide) ?_
      refine lv_istore (lv' := [(4, .int (0 : Int32)), (2, .long (1 : Int64)), (0, .ref (A 0 7 0)), (1, .int p0)]) hx hb dX8_odds_51 hl (by decide) rfl (fun ls hl => ?_)
      have J276 : ∀ (x276_2 : Int64) (σ276_ : ss_M) (H : Heap) (locs : List Loc) (ls : Array Slot), sW 1 D Y A σ276_ s s.heap H locs → lv_has ls 9 [(0, .ref (A 0 7 0)), (2, .long x276_2)] → f_X8_odds_j276 x276_2 σ276_ = some (r, σ') → W p l e rm_X8_odds s m args below meth c H locs 0 0 (MQ below (Qi0 1 D Y A r σ') args s 0 0 (FA 1 A)) (F0 m 276 ls []) := by
        intro x276_2 σ276_ H locs ls hW hl hf
        rw [f_X8_odds_j276] at hf
        refine lv_lconst (v := (0 : Int64)) hx hb dX8_odds_276 (by decide) ?_
        refine lv_lstore (lv' := [(4, .long (0 : Int64)), (0, .ref (A 0 7 0)), (2, .long x276_2)]) hx hb dX8_odds_277 hl (by decide) rfl (fun ls hl => ?_)
        refine lv_iconst (v := (0 : Int32)) hx hb dX8_odds_279 (by decide) ?_
        refine lv_istore (lv' := [(6, .int (0 : Int32)), (4, .long (0 : Int64)), (0, .ref (A 0 7 0)), (2, .long x276_2)]) hx hb dX8_odds_280 hl (by decide) rfl (fun ls hl => ?_)
        have J307 : ∀ (x307_4 : Int64) (σ307_ : ss_M) (H : Heap) (locs : List Loc) (ls : Array Slot), sW 1 D Y A σ307_ s s.heap H locs → lv_has ls 9 [(0, .ref (A 0 7 0)), (2, .long x276_2), (4, .long x307_4)] → f_X8_odds_j307 x276_2 x307_4 σ307_ = some (r, σ') → W p l e rm_X8_odds s m args below meth c H locs 0 0 (MQ below (Qi0 1 D Y A r σ') args s 0 0 (FA 1 A)) (F0 m 307 ls []) := by
          intro x307_4 σ307_ H locs ls hW hl hf
          rw [f_X8_odds_j307] at hf
          refine lv_aload_n hx hb dX8_odds_307 rfl (lv_at hl 0 rfl) ?_
          refine lv_lload hx hb dX8_odds_308 (lv_at hl 2 rfl) ?_
          refine lv_lload_n hx hb dX8_odds_310 rfl (lv_at hl 1 rfl) ?_
          obtain ⟨σ3, hf3, hf⟩ := ss_bind hf
          refine rv_v S (c_X8_lay l hAD  hf3) (cwV 2 hts gX8_odds_X8_lay rfl rfl rfl hd_X8_lay ⟨(Nat.le_of_ble_eq_true rfl), (Nat.le_of_ble_eq_true rfl)⟩) hW (kS_in (by decide)) rfl rfl rfl hl.1 (Nat.le_of_ble_eq_true rfl) ⟨Nat.zero_le _, Nat.zero_le _⟩ dX8_odds_311 (fun H locs hW => ?_)
          refine lv_iconst (v := (1 : Int32)) hx hb dX8_odds_314 (by decide) ?_
          exact re_i hx hb hr hlocks hW (Option.some.inj hf) dX8_odds_315
        have L282 : ∀ (n282 : Nat), ∀ (x282_4 : Int64) (x282_6 : Int32) (σ282_ : ss_M) (H : Heap) (locs : List Loc) (ls : Array Slot), sW 1 D Y A σ282_ s s.heap H locs → lv_has ls 9 [(0, .ref (A 0 7 0)), (2, .long x276_2), (4, .long x282_4), (6, .int x282_6)] → f_X8_odds_L282 (f_X8_odds_j307 x276_2) n282 x282_4 x282_6 σ282_ = some (r, σ') → W p l e rm_X8_odds s m args below meth c H locs 0 0 (MQ below (Qi0 1 D Y A r σ') args s 0 0 (FA 1 A)) (F0 m 282 ls []) := by
          intro n282
          induction n282 with
          | zero =>
            intro x282_4 x282_6 σ282_ H locs ls hW hl hf
            rw [f_X8_odds_L282] at hf
            cases hf
          | succ n282 ih282 =>
            intro x282_4 x282_6 σ282_ H locs ls hW hl hf
            rw [f_X8_odds_L282] at hf
            refine lv_iload hx hb dX8_odds_282 (lv_at hl 3 rfl) ?_
            refine lv_bipush (v := (30 : Int32)) hx hb dX8_odds_284 (by decide) ?_
            refine lv_icmp_gt (tgt := 307) hx hb dX8_odds_286 (by decide) (fun q4 => ?_) (fun q4 => ?_)
            · rw [if_pos q4] at hf
              exact J307 x282_4 σ282_ _ _ _ hW (lv_sub hl [0, 1, 2] rfl) hf
            · rw [if_neg q4] at hf
              refine lv_lload hx hb dX8_odds_289 (lv_at hl 2 rfl) ?_
              refine lv_aload_n hx hb dX8_odds_291 rfl (lv_at hl 0 rfl) ?_
              refine gf_X8_ways hx hb hts hown hW (kS_in (by decide)) iX8 (List.mem_of_getElem? (i := 1) rfl) dX8_odds_292 ?_
              refine lv_iload hx hb dX8_odds_295 (lv_at hl 3 rfl) ?_
              obtain ⟨g5, hf⟩ := ss_if hf
              refine ra_l hx hb hW (kS_in (by decide)) g5 dX8_odds_297 ?_
              refine lv_ladd hx hb dX8_odds_298 ?_
              refine lv_lstore (lv' := [(4, .long (x282_4 + (sB σ282_ 2 (x282_6).toNatClampNeg))), (0, .ref (A 0 7 0)), (2, .long x276_2), (6, .int x282_6)]) hx hb dX8_odds_299 hl (by decide) rfl (fun ls hl => ?_)
              refine lv_iinc (v := (x282_6 + (1 : Int32))) (lv' := [(6, .int (x282_6 + (1 : Int32))), (4, .long (x282_4 + (sB σ282_ 2 (x282_6).toNatClampNeg))), (0, .ref (A 0 7 0)), (2, .long x276_2)]) hx hb dX8_odds_301 hl (k := 3) rfl rfl (by decide) rfl (fun ls hl => ?_)
              refine lv_goto (tgt := 282) hx hb dX8_odds_304 (by decide) ?_
              exact ih282 (x282_4 + (sB σ282_ 2 (x282_6).toNatClampNeg)) (x282_6 + (1 : Int32)) σ282_ _ _ _ hW (lv_sub hl [2, 3, 1, 0] rfl) hf
        exact L282 FU (0 : Int64) (0 : Int32) σ276_ _ _ _ hW (lv_sub hl [2, 3, 1, 0] rfl) hf
      have L53 : ∀ (n53 : Nat), ∀ (x53_2 : Int64) (x53_4 : Int32) (σ53_ : ss_M) (H : Heap) (locs : List Loc) (ls : Array Slot), sW 1 D Y A σ53_ s s.heap H locs → lv_has ls 9 [(0, .ref (A 0 7 0)), (1, .int p0), (2, .long x53_2), (4, .int x53_4)] → f_X8_odds_L53 p0 (f_X8_odds_j276) n53 x53_2 x53_4 σ53_ = some (r, σ') → W p l e rm_X8_odds s m args below meth c H locs 0 0 (MQ below (Qi0 1 D Y A r σ') args s 0 0 (FA 1 A)) (F0 m 53 ls []) := by
        intro n53
        induction n53 with
        | zero =>
          intro x53_2 x53_4 σ53_ H locs ls hW hl hf
          rw [f_X8_odds_L53] at hf
          cases hf
        | succ n53 ih53 =>
          intro x53_2 x53_4 σ53_ H locs ls hW hl hf
          rw [f_X8_odds_L53] at hf
          refine lv_iload hx hb dX8_odds_53 (lv_at hl 3 rfl) ?_
          refine lv_aload_n hx hb dX8_odds_55 rfl (lv_at hl 0 rfl) ?_
          refine gf_X8_many hx hb hts hown hW (kS_in (by decide)) iX8 (List.mem_of_getElem? (i := 3) rfl) dX8_odds_56 ?_
          refine lv_icmp_ge (tgt := 276) hx hb dX8_odds_59 (by decide) (fun q6 => ?_) (fun q6 => ?_)
          · rw [if_pos q6] at hf
            exact J276 x53_2 σ53_ _ _ _ hW (lv_sub hl [0, 2] rfl) hf
          · rw [if_neg q6] at hf
            refine lv_iconst (v := (0 : Int32)) hx hb dX8_odds_62 (by decide) ?_
            refine lv_istore (lv' := [(5, .int (0 : Int32)), (0, .ref (A 0 7 0)), (1, .int p0), (2, .long x53_2), (4, .int x53_4)]) hx hb dX8_odds_63 hl (by decide) rfl (fun ls hl => ?_)
            have J86 : ∀ (σ86_ : ss_M) (H : Heap) (locs : List Loc) (ls : Array Slot), sW 1 D Y A σ86_ s s.heap H locs → lv_has ls 9 [(0, .ref (A 0 7 0)), (1, .int p0), (2, .long x53_2), (4, .int x53_4)] → f_X8_odds_j86 p0 x53_2 x53_4 (f_X8_odds_L53 p0 (f_X8_odds_j276) n53) σ86_ = some (r, σ') → W p l e rm_X8_odds s m args below meth c H locs 0 0 (MQ below (Qi0 1 D Y A r σ') args s 0 0 (FA 1 A)) (F0 m 86 ls []) := by
              intro σ86_ H locs ls hW hl hf
              rw [f_X8_odds_j86] at hf
              refine lv_aload_n hx hb dX8_odds_86 rfl (lv_at hl 0 rfl) ?_
              refine gf_X8_kinds hx hb hts hown hW (kS_in (by decide)) iX8 (List.mem_of_getElem? (i := 5) rfl) dX8_odds_87 ?_
              refine lv_iload hx hb dX8_odds_90 (lv_at hl 3 rfl) ?_
              obtain ⟨g7, hf⟩ := ss_if hf
              refine ra_i hx hb hW (kS_in (by decide)) g7 dX8_odds_92 ?_
              refine lv_iconst (v := (-1 : Int32)) hx hb dX8_odds_93 (by decide) ?_
              have J102 : ∀ (s102_0 : Int32) (σ102_ : ss_M) (H : Heap) (locs : List Loc) (ls : Array Slot), sW 1 D Y A σ102_ s s.heap H locs → lv_has ls 9 [(0, .ref (A 0 7 0)), (1, .int p0), (2, .long x53_2), (4, .int x53_4)] → f_X8_odds_j102 p0 x53_2 x53_4 (f_X8_odds_L53 p0 (f_X8_odds_j276) n53) s102_0 σ102_ = some (r, σ') → W p l e rm_X8_odds s m args below meth c H locs 0 0 (MQ below (Qi0 1 D Y A r σ') args s 0 0 (FA 1 A)) (F0 m 102 ls [.int s102_0]) := by
                intro s102_0 σ102_ H locs ls hW hl hf
                rw [f_X8_odds_j102] at hf
                refine lv_istore (lv' := [(5, .int s102_0), (0, .ref (A 0 7 0)), (1, .int p0), (2, .long x53_2), (4, .int x53_4)]) hx hb dX8_odds_102 hl (by decide) rfl (fun ls hl => ?_)
                refine lv_aload_n hx hb dX8_odds_104 rfl (lv_at hl 1 rfl) ?_
                refine gf_X8_lengths hx hb hts hown hW (kS_in (by decide)) iX8 (List.mem_of_getElem? (i := 6) rfl) dX8_odds_105 ?_
                refine lv_iload hx hb dX8_odds_108 (lv_at hl 4 rfl) ?_
                obtain ⟨g8, hf⟩ := ss_if hf
                refine ra_i hx hb hW (kS_in (by decide)) g8 dX8_odds_110 ?_
                refine lv_istore (lv' := [(6, .int (sA σ102_ 17 0 (x53_4).toNatClampNeg)), (5, .int s102_0), (0, .ref (A 0 7 0)), (1, .int p0), (2, .long x53_2), (4, .int x53_4)]) hx hb dX8_odds_111 hl (by decide) rfl (fun ls hl => ?_)
                have J225 : ∀ (σ225_ : ss_M) (H : Heap) (locs : List Loc) (ls : Array Slot), sW 1 D Y A σ225_ s s.heap H locs → lv_has ls 9 [(0, .ref (A 0 7 0)), (1, .int p0), (2, .long x53_2), (4, .int x53_4), (5, .int s102_0)] → f_X8_odds_j225 x53_2 x53_4 (f_X8_odds_L53 p0 (f_X8_odds_j276) n53) s102_0 σ225_ = some (r, σ') → W p l e rm_X8_odds s m args below meth c H locs 0 0 (MQ below (Qi0 1 D Y A r σ') args s 0 0 (FA 1 A)) (F0 m 225 ls []) := by
                  intro σ225_ H locs ls hW hl hf
                  rw [f_X8_odds_j225] at hf
                  refine lv_iconst (v := (0 : Int32)) hx hb dX8_odds_225 (by decide) ?_
                  refine lv_istore (lv' := [(6, .int (0 : Int32)), (0, .ref (A 0 7 0)), (1, .int p0), (2, .long x53_2), (4, .int x53_4), (5, .int s102_0)]) hx hb dX8_odds_226 hl (by decide) rfl (fun ls hl => ?_)
                  have J255 : ∀ (σ255_ : ss_M) (H : Heap) (locs : List Loc) (ls : Array Slot), sW 1 D Y A σ255_ s s.heap H locs → lv_has ls 9 [(0, .ref (A 0 7 0)), (1, .int p0), (2, .long x53_2), (4, .int x53_4), (5, .int s102_0)] → f_X8_odds_j255 x53_2 x53_4 (f_X8_odds_L53 p0 (f_X8_odds_j276) n53) s102_0 σ255_ = some (r, σ') → W p l e rm_X8_odds s m args below meth c H locs 0 0 (MQ below (Qi0 1 D Y A r σ') args s 0 0 (FA 1 A)) (F0 m 255 ls []) := by
                    intro σ255_ H locs ls hW hl hf
                    rw [f_X8_odds_j255] at hf
                    refine lv_lload_n hx hb dX8_odds_255 rfl (lv_at hl 2 rfl) ?_
                    refine lv_iload hx hb dX8_odds_256 (lv_at hl 4 rfl) ?_
                    have J268 : ∀ (s268_0 : Int64) (σ268_ : ss_M) (H : Heap) (locs : List Loc) (ls : Array Slot), sW 1 D Y A σ268_ s s.heap H locs → lv_has ls 9 [(0, .ref (A 0 7 0)), (1, .int p0), (4, .int x53_4)] → f_X8_odds_j268 x53_2 x53_4 (f_X8_odds_L53 p0 (f_X8_odds_j276) n53) s268_0 σ268_ = some (r, σ') → W p l e rm_X8_odds s m args below meth c H locs 0 0 (MQ below (Qi0 1 D Y A r σ') args s 0 0 (FA 1 A)) (F0 m 268 ls [.long s268_0, .long x53_2]) := by
                      intro s268_0 σ268_ H locs ls hW hl hf
                      rw [f_X8_odds_j268] at hf
                      refine lv_lmul hx hb dX8_odds_268 ?_
                      refine lv_lstore_n (lv' := [(2, .long (x53_2 * s268_0)), (0, .ref (A 0 7 0)), (1, .int p0), (4, .int x53_4)]) hx hb dX8_odds_269 rfl hl (by decide) rfl (fun ls hl => ?_)
                      refine lv_iinc (v := (x53_4 + (1 : Int32))) (lv' := [(4, .int (x53_4 + (1 : Int32))), (2, .long (x53_2 * s268_0)), (0, .ref (A 0 7 0)), (1, .int p0)]) hx hb dX8_odds_270 hl (k := 3) rfl rfl (by decide) rfl (fun ls hl => ?_)
                      refine lv_goto (tgt := 53) hx hb dX8_odds_273 (by decide) ?_
                      exact ih53 (x53_2 * s268_0) (x53_4 + (1 : Int32)) σ268_ _ _ _ hW (lv_sub hl [2, 3, 1, 0] rfl) hf
                    refine lv_if_eq (tgt := 267) hx hb dX8_odds_258 (by decide) (fun q9 => ?_) (fun q9 => ?_)
                    · rw [if_pos q9] at hf
                      refine lv_lconst (v := (1 : Int64)) hx hb dX8_odds_267 (by decide) ?_
                      exact J268 (1 : Int64) σ255_ _ _ _ hW (lv_sub hl [0, 1, 3] rfl) hf
                    · rw [if_neg q9] at hf
                      refine lv_ldc2 hx hb hown (hts _ (List.mem_of_getElem? (i := 7) rfl)) dX8_odds_261 ?_
                      refine lv_goto (tgt := 268) hx hb dX8_odds_264 (by decide) ?_
                      exact J268 (10 : Int64) σ255_ _ _ _ hW (lv_sub hl [0, 1, 3] rfl) hf
                  have L228 : ∀ (n228 : Nat), ∀ (x228_6 : Int32) (σ228_ : ss_M) (H : Heap) (locs : List Loc) (ls : Array Slot), sW 1 D Y A σ228_ s s.heap H locs → lv_has ls 9 [(0, .ref (A 0 7 0)), (1, .int p0), (2, .long x53_2), (4, .int x53_4), (5, .int s102_0), (6, .int x228_6)] → f_X8_odds_L228 (f_X8_odds_j255 x53_2 x53_4 (f_X8_odds_L53 p0 (f_X8_odds_j276) n53) s102_0) n228 x228_6 σ228_ = some (r, σ') → W p l e rm_X8_odds s m args below meth c H locs 0 0 (MQ below (Qi0 1 D Y A r σ') args s 0 0 (FA 1 A)) (F0 m 228 ls []) := by
                    intro n228
                    induction n228 with
                    | zero =>
                      intro x228_6 σ228_ H locs ls hW hl hf
                      rw [f_X8_odds_L228] at hf
                      cases hf
                    | succ n228 ih228 =>
                      intro x228_6 σ228_ H locs ls hW hl hf
                      rw [f_X8_odds_L228] at hf
                      refine lv_iload hx hb dX8_odds_228 (lv_at hl 5 rfl) ?_
                      refine lv_bipush (v := (30 : Int32)) hx hb dX8_odds_230 (by decide) ?_
                      refine lv_icmp_gt (tgt := 255) hx hb dX8_odds_232 (by decide) (fun q10 => ?_) (fun q10 => ?_)
                      · rw [if_pos q10] at hf
                        exact J255 σ228_ _ _ _ hW (lv_sub hl [0, 1, 2, 3, 4] rfl) hf
                      · rw [if_neg q10] at hf
                        refine lv_aload_n hx hb dX8_odds_235 rfl (lv_at hl 0 rfl) ?_
                        refine gf_X8_ways hx hb hts hown hW (kS_in (by decide)) iX8 (List.mem_of_getElem? (i := 1) rfl) dX8_odds_236 ?_
                        refine lv_iload hx hb dX8_odds_239 (lv_at hl 5 rfl) ?_
                        refine lv_aload_n hx hb dX8_odds_241 rfl (lv_at hl 0 rfl) ?_
                        refine gf_X8_waysThen hx hb hts hown hW (kS_in (by decide)) iX8 (List.mem_of_getElem? (i := 4) rfl) dX8_odds_242 ?_
                        refine lv_iload hx hb dX8_odds_245 (lv_at hl 5 rfl) ?_
                        obtain ⟨g11, hf⟩ := ss_if hf
                        refine ra_l hx hb hW (kS_in (by decide)) g11 dX8_odds_247 ?_
                        obtain ⟨g12, hf⟩ := ss_if hf
                        refine rs_l hx hb hW (kS_in (by decide)) g12 dX8_odds_248 (fun H locs hW => ?_)
                        refine lv_iinc (v := (x228_6 + (1 : Int32))) (lv' := [(6, .int (x228_6 + (1 : Int32))), (0, .ref (A 0 7 0)), (1, .int p0), (2, .long x53_2), (4, .int x53_4), (5, .int s102_0)]) hx hb dX8_odds_249 hl (k := 5) rfl rfl (by decide) rfl (fun ls hl => ?_)
                        refine lv_goto (tgt := 228) hx hb dX8_odds_252 (by decide) ?_
                        exact ih228 (x228_6 + (1 : Int32)) (sBu σ228_ 2 (vp_updL (sB σ228_ 2) (x228_6).toNatClampNeg (sB σ228_ 3 (x228_6).toNatClampNeg))) _ _ _ hW (lv_sub hl [1, 2, 3, 4, 5, 0] rfl) hf
                  exact L228 FU (0 : Int32) σ225_ _ _ _ hW (lv_sub hl [1, 2, 3, 4, 5, 0] rfl) hf
                have L113 : ∀ (n113 : Nat), ∀ (x113_6 : Int32) (σ113_ : ss_M) (H : Heap) (locs : List Loc) (ls : Array Slot), sW 1 D Y A σ113_ s s.heap H locs → lv_has ls 9 [(0, .ref (A 0 7 0)), (1, .int p0), (2, .long x53_2), (4, .int x53_4), (5, .int s102_0), (6, .int x113_6)] → f_X8_odds_L113 p0 x53_4 s102_0 (f_X8_odds_j225 x53_2 x53_4 (f_X8_odds_L53 p0 (f_X8_odds_j276) n53) s102_0) n113 x113_6 σ113_ = some (r, σ') → W p l e rm_X8_odds s m args below meth c H locs 0 0 (MQ below (Qi0 1 D Y A r σ') args s 0 0 (FA 1 A)) (F0 m 113 ls []) := by
                  intro n113
                  induction n113 with
                  | zero =>
                    intro x113_6 σ113_ H locs ls hW hl hf
                    rw [f_X8_odds_L113] at hf
                    cases hf
                  | succ n113 ih113 =>
                    intro x113_6 σ113_ H locs ls hW hl hf
                    rw [f_X8_odds_L113] at hf
                    refine lv_iload hx hb dX8_odds_113 (lv_at hl 5 rfl) ?_
                    refine lv_aload_n hx hb dX8_odds_115 rfl (lv_at hl 0 rfl) ?_
                    refine gf_X8_breath hx hb hts hown hW (kS_in (by decide)) iX8 (List.mem_of_getElem? (i := 2) rfl) dX8_odds_116 ?_
                    refine lv_icmp_gt (tgt := 225) hx hb dX8_odds_119 (by decide) (fun q13 => ?_) (fun q13 => ?_)
                    · rw [if_pos q13] at hf
                      exact J225 σ113_ _ _ _ hW (lv_sub hl [0, 1, 2, 3, 4] rfl) hf
                    · rw [if_neg q13] at hf
                      refine lv_iload hx hb dX8_odds_122 (lv_at hl 5 rfl) ?_
                      refine lv_aload_n hx hb dX8_odds_124 rfl (lv_at hl 0 rfl) ?_
                      refine gf_X8_lengths hx hb hts hown hW (kS_in (by decide)) iX8 (List.mem_of_getElem? (i := 6) rfl) dX8_odds_125 ?_
                      refine lv_iload hx hb dX8_odds_128 (lv_at hl 3 rfl) ?_
                      obtain ⟨g14, hf⟩ := ss_if hf
                      refine ra_i hx hb hW (kS_in (by decide)) g14 dX8_odds_130 ?_
                      refine lv_isub hx hb dX8_odds_131 ?_
                      refine lv_istore (lv' := [(7, .int (x113_6 - (sA σ113_ 17 0 (x53_4).toNatClampNeg))), (0, .ref (A 0 7 0)), (1, .int p0), (2, .long x53_2), (4, .int x53_4), (5, .int s102_0), (6, .int x113_6)]) hx hb dX8_odds_132 hl (by decide) rfl (fun ls hl => ?_)
                      refine lv_aload_n hx hb dX8_odds_134 rfl (lv_at hl 1 rfl) ?_
                      refine gf_X8_kinds hx hb hts hown hW (kS_in (by decide)) iX8 (List.mem_of_getElem? (i := 5) rfl) dX8_odds_135 ?_
                      refine lv_iload hx hb dX8_odds_138 (lv_at hl 4 rfl) ?_
                      obtain ⟨g15, hf⟩ := ss_if hf
                      refine ra_i hx hb hW (kS_in (by decide)) g15 dX8_odds_140 ?_
                      refine lv_iload hx hb dX8_odds_141 (lv_at hl 0 rfl) ?_
                      refine lv_aload_n hx hb dX8_odds_143 rfl (lv_at hl 1 rfl) ?_
                      refine gf_X8_breath hx hb hts hown hW (kS_in (by decide)) iX8 (List.mem_of_getElem? (i := 2) rfl) dX8_odds_144 ?_
                      obtain ⟨r16, σ16, hf16, hf⟩ := ss_bd_some hf
                      refine rt_i S (c_X8_givenBy l hAD  hf16) (va_cwS 3 hts gX8_odds_X8_givenBy rfl rfl rfl hd_X8_givenBy ⟨(Nat.le_of_ble_eq_true rfl), (Nat.le_of_ble_eq_true rfl)⟩) hW rfl rfl hl.1 (Nat.le_of_ble_eq_true rfl) ⟨Nat.zero_le _, Nat.zero_le _⟩ dX8_odds_147 (fun H locs hW => ?_)
                      refine lv_istore (lv' := [(8, .int r16), (7, .int (x113_6 - (sA σ113_ 17 0 (x53_4).toNatClampNeg))), (0, .ref (A 0 7 0)), (1, .int p0), (2, .long x53_2), (4, .int x53_4), (5, .int s102_0), (6, .int x113_6)]) hx hb dX8_odds_150 hl (by decide) rfl (fun ls hl => ?_)
                      refine lv_aload_n hx hb dX8_odds_152 rfl (lv_at hl 2 rfl) ?_
                      refine gf_X8_waysThen hx hb hts hown hW (kS_in (by decide)) iX8 (List.mem_of_getElem? (i := 4) rfl) dX8_odds_153 ?_
                      refine lv_iload hx hb dX8_odds_156 (lv_at hl 1 rfl) ?_
                      refine lv_dup2_11 hx hb dX8_odds_158 rfl rfl ?_
                      obtain ⟨g17, hf⟩ := ss_if hf
                      refine ra_l hx hb hW (kS_in (by decide)) g17 dX8_odds_159 ?_
                      refine lv_iload hx hb dX8_odds_160 (lv_at hl 6 rfl) ?_
                      have J185 : ∀ (s185_0 : Int64) (σ185_ : ss_M) (H : Heap) (locs : List Loc) (ls : Array Slot), sW 1 D Y A σ185_ s s.heap H locs → lv_has ls 9 [(0, .ref (A 0 7 0)), (1, .int p0), (2, .long x53_2), (4, .int x53_4), (5, .int s102_0), (6, .int x113_6), (8, .int r16)] → f_X8_odds_j185 p0 x53_4 s102_0 x113_6 σ113_ (f_X8_odds_L113 p0 x53_4 s102_0 (f_X8_odds_j225 x53_2 x53_4 (f_X8_odds_L53 p0 (f_X8_odds_j276) n53) s102_0) n113) r16 σ16 s185_0 σ185_ = some (r, σ') → W p l e rm_X8_odds s m args below meth c H locs 0 0 (MQ below (Qi0 1 D Y A r σ') args s 0 0 (FA 1 A)) (F0 m 185 ls [.long s185_0, .long (sB σ16 3 ((x113_6 - (sA σ113_ 17 0 (x53_4).toNatClampNeg))).toNatClampNeg), .int (x113_6 - (sA σ113_ 17 0 (x53_4).toNatClampNeg)), .ref (A 3 3 0)]) := by
                        intro s185_0 σ185_ H locs ls hW hl hf
                        rw [f_X8_odds_j185] at hf
                        refine lv_ladd hx hb dX8_odds_185 ?_
                        obtain ⟨g18, hf⟩ := ss_if hf
                        refine rs_l hx hb hW (kS_in (by decide)) g18 dX8_odds_186 (fun H locs hW => ?_)
                        obtain ⟨σm19, eσm19, hf⟩ := ss_let_some hf
                        rw [← eσm19] at hW
                        refine lv_aload_n hx hb dX8_odds_187 rfl (lv_at hl 0 rfl) ?_
                        refine gf_X8_waysThen hx hb hts hown hW (kS_in (by decide)) iX8 (List.mem_of_getElem? (i := 4) rfl) dX8_odds_188 ?_
                        refine lv_iload hx hb dX8_odds_191 (lv_at hl 6 rfl) ?_
                        refine lv_dup2_11 hx hb dX8_odds_193 rfl rfl ?_
                        obtain ⟨g20, hf⟩ := ss_if hf
                        refine ra_l hx hb hW (kS_in (by decide)) g20 dX8_odds_194 ?_
                        refine lv_iload hx hb dX8_odds_195 (lv_at hl 4 rfl) ?_
                        have J217 : ∀ (s217_0 : Int64) (σ217_ : ss_M) (H : Heap) (locs : List Loc) (ls : Array Slot), sW 1 D Y A σ217_ s s.heap H locs → lv_has ls 9 [(0, .ref (A 0 7 0)), (1, .int p0), (2, .long x53_2), (4, .int x53_4), (5, .int s102_0), (6, .int x113_6)] → f_X8_odds_j217 x113_6 (f_X8_odds_L113 p0 x53_4 s102_0 (f_X8_odds_j225 x53_2 x53_4 (f_X8_odds_L53 p0 (f_X8_odds_j276) n53) s102_0) n113) r16 σm19 s217_0 σ217_ = some (r, σ') → W p l e rm_X8_odds s m args below meth c H locs 0 0 (MQ below (Qi0 1 D Y A r σ') args s 0 0 (FA 1 A)) (F0 m 217 ls [.long s217_0, .long (sB σm19 3 (r16).toNatClampNeg), .int r16, .ref (A 3 3 0)]) := by
                          intro s217_0 σ217_ H locs ls hW hl hf
                          rw [f_X8_odds_j217] at hf
                          refine lv_ladd hx hb dX8_odds_217 ?_
                          obtain ⟨g21, hf⟩ := ss_if hf
                          refine rs_l hx hb hW (kS_in (by decide)) g21 dX8_odds_218 (fun H locs hW => ?_)
                          refine lv_iinc (v := (x113_6 + (1 : Int32))) (lv' := [(6, .int (x113_6 + (1 : Int32))), (0, .ref (A 0 7 0)), (1, .int p0), (2, .long x53_2), (4, .int x53_4), (5, .int s102_0)]) hx hb dX8_odds_219 hl (k := 5) rfl rfl (by decide) rfl (fun ls hl => ?_)
                          refine lv_goto (tgt := 113) hx hb dX8_odds_222 (by decide) ?_
                          exact ih113 (x113_6 + (1 : Int32)) (sBu σ217_ 3 (vp_updL (sB σ217_ 3) (r16).toNatClampNeg ((sB σm19 3 (r16).toNatClampNeg) + s217_0))) _ _ _ hW (lv_sub hl [1, 2, 3, 4, 5, 0] rfl) hf
                        refine lv_if_eq (tgt := 216) hx hb dX8_odds_197 (by decide) (fun q22 => ?_) (fun q22 => ?_)
                        · rw [if_pos q22] at hf
                          refine lv_lconst (v := (0 : Int64)) hx hb dX8_odds_216 (by decide) ?_
                          exact J217 (0 : Int64) σm19 _ _ _ hW (lv_sub hl [0, 1, 2, 3, 4, 5] rfl) hf
                        · rw [if_neg q22] at hf
                          refine lv_aload_n hx hb dX8_odds_200 rfl (lv_at hl 0 rfl) ?_
                          refine gf_X8_ways hx hb hts hown hW (kS_in (by decide)) iX8 (List.mem_of_getElem? (i := 1) rfl) dX8_odds_201 ?_
                          refine lv_iload hx hb dX8_odds_204 (lv_at hl 5 rfl) ?_
                          obtain ⟨g23, hf⟩ := ss_if hf
                          refine ra_l hx hb hW (kS_in (by decide)) g23 dX8_odds_206 ?_
                          refine lv_bipush (v := (10 : Int32)) hx hb dX8_odds_207 (by decide) ?_
                          refine lv_iload_n hx hb dX8_odds_209 rfl (lv_at hl 1 rfl) ?_
                          refine lv_isub hx hb dX8_odds_210 ?_
                          refine lv_i2l hx hb dX8_odds_211 rfl ?_
                          refine lv_lmul hx hb dX8_odds_212 ?_
                          refine lv_goto (tgt := 217) hx hb dX8_odds_213 (by decide) ?_
                          exact J217 ((sB σm19 2 (x113_6).toNatClampNeg) * (((10 : Int32) - p0)).toInt64) σm19 _ _ _ hW (lv_sub hl [0, 1, 2, 3, 4, 5] rfl) hf
                      refine lv_if_eq (tgt := 178) hx hb dX8_odds_162 (by decide) (fun q24 => ?_) (fun q24 => ?_)
                      · rw [if_pos q24] at hf
                        refine lv_aload_n hx hb dX8_odds_178 rfl (lv_at hl 2 rfl) ?_
                        refine gf_X8_ways hx hb hts hown hW (kS_in (by decide)) iX8 (List.mem_of_getElem? (i := 1) rfl) dX8_odds_179 ?_
                        refine lv_iload hx hb dX8_odds_182 (lv_at hl 7 rfl) ?_
                        obtain ⟨g25, hf⟩ := ss_if hf
                        refine ra_l hx hb hW (kS_in (by decide)) g25 dX8_odds_184 ?_
                        exact J185 (sB σ16 2 (x113_6).toNatClampNeg) σ16 _ _ _ hW (lv_sub hl [2, 3, 4, 5, 6, 7, 0] rfl) hf
                      · rw [if_neg q24] at hf
                        refine lv_aload_n hx hb dX8_odds_165 rfl (lv_at hl 2 rfl) ?_
                        refine gf_X8_ways hx hb hts hown hW (kS_in (by decide)) iX8 (List.mem_of_getElem? (i := 1) rfl) dX8_odds_166 ?_
                        refine lv_iload hx hb dX8_odds_169 (lv_at hl 7 rfl) ?_
                        obtain ⟨g26, hf⟩ := ss_if hf
                        refine ra_l hx hb hW (kS_in (by decide)) g26 dX8_odds_171 ?_
                        refine lv_iload_n hx hb dX8_odds_172 rfl (lv_at hl 3 rfl) ?_
                        refine lv_i2l hx hb dX8_odds_173 rfl ?_
                        refine lv_lmul hx hb dX8_odds_174 ?_
                        refine lv_goto (tgt := 185) hx hb dX8_odds_175 (by decide) ?_
                        exact J185 ((sB σ16 2 (x113_6).toNatClampNeg) * (p0).toInt64) σ16 _ _ _ hW (lv_sub hl [2, 3, 4, 5, 6, 7, 0] rfl) hf
                exact L113 FU (sA σ102_ 17 0 (x53_4).toNatClampNeg) σ102_ _ _ _ hW (lv_sub hl [2, 3, 4, 5, 1, 0] rfl) hf
              refine lv_icmp_eq (tgt := 101) hx hb dX8_odds_94 (by decide) (fun q27 => ?_) (fun q27 => ?_)
              · rw [if_pos q27] at hf
                refine lv_iconst (v := (0 : Int32)) hx hb dX8_odds_101 (by decide) ?_
                exact J102 (0 : Int32) σ86_ _ _ _ hW (lv_sub hl [0, 1, 2, 3] rfl) hf
              · rw [if_neg q27] at hf
                refine lv_iconst (v := (1 : Int32)) hx hb dX8_odds_97 (by decide) ?_
                refine lv_goto (tgt := 102) hx hb dX8_odds_98 (by decide) ?_
                exact J102 (1 : Int32) σ86_ _ _ _ hW (lv_sub hl [0, 1, 2, 3] rfl) hf
            have L65 : ∀ (n65 : Nat), ∀ (x65_5 : Int32) (σ65_ : ss_M) (H : Heap) (locs : List Loc) (ls : Array Slot), sW 1 D Y A σ65_ s s.heap H locs → lv_has ls 9 [(0, .ref (A 0 7 0)), (1, .int p0), (2, .long x53_2), (4, .int x53_4), (5, .int x65_5)] → f_X8_odds_L65 (f_X8_odds_j86 p0 x53_2 x53_4 (f_X8_odds_L53 p0 (f_X8_odds_j276) n53)) n65 x65_5 σ65_ = some (r, σ') → W p l e rm_X8_odds s m args below meth c H locs 0 0 (MQ below (Qi0 1 D Y A r σ') args s 0 0 (FA 1 A)) (F0 m 65 ls []) := by
              intro n65
              induction n65 with
              | zero =>
                intro x65_5 σ65_ H locs ls hW hl hf
                rw [f_X8_odds_L65] at hf
                cases hf
              | succ n65 ih65 =>
                intro x65_5 σ65_ H locs ls hW hl hf
                rw [f_X8_odds_L65] at hf
                refine lv_iload hx hb dX8_odds_65 (lv_at hl 4 rfl) ?_
                refine lv_bipush (v := (30 : Int32)) hx hb dX8_odds_67 (by decide) ?_
                refine lv_icmp_gt (tgt := 86) hx hb dX8_odds_69 (by decide) (fun q28 => ?_) (fun q28 => ?_)
                · rw [if_pos q28] at hf
                  exact J86 σ65_ _ _ _ hW (lv_sub hl [0, 1, 2, 3] rfl) hf
                · rw [if_neg q28] at hf
                  refine lv_aload_n hx hb dX8_odds_72 rfl (lv_at hl 0 rfl) ?_
                  refine gf_X8_waysThen hx hb hts hown hW (kS_in (by decide)) iX8 (List.mem_of_getElem? (i := 4) rfl) dX8_odds_73 ?_
                  refine lv_iload hx hb dX8_odds_76 (lv_at hl 4 rfl) ?_
                  refine lv_lconst (v := (0 : Int64)) hx hb dX8_odds_78 (by decide) ?_
                  obtain ⟨g29, hf⟩ := ss_if hf
                  refine rs_l hx hb hW (kS_in (by decide)) g29 dX8_odds_79 (fun H locs hW => ?_)
                  refine lv_iinc (v := (x65_5 + (1 : Int32))) (lv' := [(5, .int (x65_5 + (1 : Int32))), (0, .ref (A 0 7 0)), (1, .int p0), (2, .long x53_2), (4, .int x53_4)]) hx hb dX8_odds_80 hl (k := 4) rfl rfl (by decide) rfl (fun ls hl => ?_)
                  refine lv_goto (tgt := 65) hx hb dX8_odds_83 (by decide) ?_
                  exact ih65 (x65_5 + (1 : Int32)) (sBu σ65_ 3 (vp_updL (sB σ65_ 3) (x65_5).toNatClampNeg (0 : Int64))) _ _ _ hW (lv_sub hl [1, 2, 3, 4, 0] rfl) hf
            exact L65 FU (0 : Int32) σ53_ _ _ _ hW (lv_sub hl [1, 2, 3, 4, 0] rfl) hf
      exact L53 FU (1 : Int64) (0 : Int32) σ48_ _ _ _ hW (lv_sub hl [2, 3, 1, 0] rfl) hf
    have L17 : ∀ (n17 : Nat), ∀ (x17_2 : Int32) (σ17_ : ss_M) (H : Heap) (locs : List Loc) (ls : Array Slot), sW 1 D Y A σ17_ s s.heap H locs → lv_has ls 9 [(0, .ref (A 0 7 0)), (1, .int p0), (2, .int x17_2)] → f_X8_odds_L17 (f_X8_odds_j48 p0) n17 x17_2 σ17_ = some (r, σ') → W p l e rm_X8_odds s m args below meth c H locs 0 0 (MQ below (Qi0 1 D Y A r σ') args s 0 0 (FA 1 A)) (F0 m 17 ls []) := by
      intro n17
      induction n17 with
      | zero =>
        intro x17_2 σ17_ H locs ls hW hl hf
        rw [f_X8_odds_L17] at hf
        cases hf
      | succ n17 ih17 =>
        intro x17_2 σ17_ H locs ls hW hl hf
        rw [f_X8_odds_L17] at hf
        refine lv_iload_n hx hb dX8_odds_17 rfl (lv_at hl 2 rfl) ?_
        refine lv_bipush (v := (30 : Int32)) hx hb dX8_odds_18 (by decide) ?_
        refine lv_icmp_gt (tgt := 48) hx hb dX8_odds_20 (by decide) (fun q30 => ?_) (fun q30 => ?_)
        · rw [if_pos q30] at hf
          exact J48 σ17_ _ _ _ hW (lv_sub hl [0, 1] rfl) hf
        · rw [if_neg q30] at hf
          refine lv_aload_n hx hb dX8_odds_23 rfl (lv_at hl 0 rfl) ?_
          refine gf_X8_ways hx hb hts hown hW (kS_in (by decide)) iX8 (List.mem_of_getElem? (i := 1) rfl) dX8_odds_24 ?_
          refine lv_iload_n hx hb dX8_odds_27 rfl (lv_at hl 2 rfl) ?_
          refine lv_iload_n hx hb dX8_odds_28 rfl (lv_at hl 2 rfl) ?_
          refine lv_aload_n hx hb dX8_odds_29 rfl (lv_at hl 0 rfl) ?_
          refine gf_X8_breath hx hb hts hown hW (kS_in (by decide)) iX8 (List.mem_of_getElem? (i := 2) rfl) dX8_odds_30 ?_
          have J41 : ∀ (s41_0 : Int64) (σ41_ : ss_M) (H : Heap) (locs : List Loc) (ls : Array Slot), sW 1 D Y A σ41_ s s.heap H locs → lv_has ls 9 [(0, .ref (A 0 7 0)), (1, .int p0), (2, .int x17_2)] → f_X8_odds_j41 x17_2 (f_X8_odds_L17 (f_X8_odds_j48 p0) n17) s41_0 σ41_ = some (r, σ') → W p l e rm_X8_odds s m args below meth c H locs 0 0 (MQ below (Qi0 1 D Y A r σ') args s 0 0 (FA 1 A)) (F0 m 41 ls [.long s41_0, .int x17_2, .ref (A 3 2 0)]) := by
            intro s41_0 σ41_ H locs ls hW hl hf
            rw [f_X8_odds_j41] at hf
            obtain ⟨g31, hf⟩ := ss_if hf
            refine rs_l hx hb hW (kS_in (by decide)) g31 dX8_odds_41 (fun H locs hW => ?_)
            refine lv_iinc (v := (x17_2 + (1 : Int32))) (lv' := [(2, .int (x17_2 + (1 : Int32))), (0, .ref (A 0 7 0)), (1, .int p0)]) hx hb dX8_odds_42 hl (k := 2) rfl rfl (by decide) rfl (fun ls hl => ?_)
            refine lv_goto (tgt := 17) hx hb dX8_odds_45 (by decide) ?_
            exact ih17 (x17_2 + (1 : Int32)) (sBu σ41_ 2 (vp_updL (sB σ41_ 2) (x17_2).toNatClampNeg s41_0)) _ _ _ hW (lv_sub hl [1, 2, 0] rfl) hf
          refine lv_icmp_ne (tgt := 40) hx hb dX8_odds_33 (by decide) (fun q32 => ?_) (fun q32 => ?_)
          · rw [if_neg q32] at hf
            refine lv_lconst (v := (0 : Int64)) hx hb dX8_odds_40 (by decide) ?_
            exact J41 (0 : Int64) σ17_ _ _ _ hW (lv_sub hl [0, 1, 2] rfl) hf
          · rw [if_pos q32] at hf
            refine lv_lconst (v := (1 : Int64)) hx hb dX8_odds_36 (by decide) ?_
            refine lv_goto (tgt := 41) hx hb dX8_odds_37 (by decide) ?_
            exact J41 (1 : Int64) σ17_ _ _ _ hW (lv_sub hl [0, 1, 2] rfl) hf
    exact L17 FU (0 : Int32) σ1 _ _ _ hW (lv_sub hl [1, 2, 0] rfl) hf
  · rw [if_pos q2] at hf
    refine lv_aload_n hx hb dX8_odds_10 rfl (lv_at hl 0 rfl) ?_
    obtain ⟨r33, σ33, hf33, hf⟩ := ss_bd_some hf
    refine rv_i S (c_X8_bad l hAD  hf33) (cwV 0 hts gX8_odds_X8_bad rfl rfl rfl hd_X8_bad ⟨(Nat.le_of_ble_eq_true rfl), (Nat.le_of_ble_eq_true rfl)⟩) hW (kS_in (by decide)) rfl rfl rfl hl.1 (Nat.le_of_ble_eq_true rfl) ⟨Nat.zero_le _, Nat.zero_le _⟩ dX8_odds_11 (fun H locs hW => ?_)
    exact re_i hx hb hr hlocks hW (Option.some.inj hf) dX8_odds_14
def f_X8_drawn_j20 (σ20_ : ss_M) : Option (Int32 × ss_M) :=
  ss_bd (f_X8_bad σ20_) (fun r2 σ2 => some (r2, σ2))
def f_X8_drawn_j156 (x34_5 : Int32) (x34_6 : Int32) (kb34 : Int64 → Int32 → Int32 → ss_M → Option (Int32 × ss_M)) (x144_3 : Int64) (s156_0 : Int32) (σ156_ : ss_M) : Option (Int32 × ss_M) :=
  kb34 x144_3 (x34_5 + s156_0) (x34_6 + (1 : Int32)) σ156_
def f_X8_drawn_j144 (x34_5 : Int32) (x34_6 : Int32) (kb34 : Int64 → Int32 → Int32 → ss_M → Option (Int32 × ss_M)) (x144_3 : Int64) (x144_8 : Int32) (σ144_ : ss_M) : Option (Int32 × ss_M) :=
  if x144_8 = (0 : Int32) then (f_X8_drawn_j156 x34_5 x34_6 kb34 x144_3 (0 : Int32) σ144_) else (f_X8_drawn_j156 x34_5 x34_6 kb34 x144_3 (1 : Int32) σ144_)
def f_X8_drawn_j136 (x52_9 : Int32) (kb52 : Int64 → Int32 → Int32 → Int32 → ss_M → Option (Int32 × ss_M)) (x106_3 : Int64) (s106_0 : Int32) (s136_0 : Int32) (σ136_ : ss_M) : Option (Int32 × ss_M) :=
  kb52 x106_3 s136_0 s106_0 (x52_9 + (1 : Int32)) σ136_
def f_X8_drawn_j106 (x52_7 : Int32) (x52_9 : Int32) (kb52 : Int64 → Int32 → Int32 → Int32 → ss_M → Option (Int32 × ss_M)) (x106_3 : Int64) (x106_10 : Int32) (s106_0 : Int32) (σ106_ : ss_M) : Option (Int32 × ss_M) :=
  if s106_0 = (0 : Int32) then (f_X8_drawn_j136 x52_9 kb52 x106_3 s106_0 (0 : Int32) σ106_) else (if gd x52_9 12 = true then (ss_bd (f_X8_givenBy (sA σ106_ 18 0 (x52_9).toNatClampNeg) (x52_7 - x106_10) (sG σ106_ 18 0) σ106_) (fun r11 σ11 => f_X8_drawn_j136 x52_9 kb52 x106_3 s106_0 r11 σ11)) else none)
def f_X8_drawn_j105 (x52_7 : Int32) (x52_9 : Int32) (kb52 : Int64 → Int32 → Int32 → Int32 → ss_M → Option (Int32 × ss_M)) (x105_3 : Int64) (x105_10 : Int32) (σ105_ : ss_M) : Option (Int32 × ss_M) :=
  f_X8_drawn_j106 x52_7 x52_9 kb52 x105_3 x105_10 (0 : Int32) σ105_
def f_X8_drawn_L52 (k52_144 : Int64 → Int32 → ss_M → Option (Int32 × ss_M)) : Nat → Int64 → Int32 → Int32 → Int32 → ss_M → Option (Int32 × ss_M)
  | 0, _, _, _, _, _ => none
  | n52 + 1, x52_3, x52_7, x52_8, x52_9, σ52_ => if (sG σ52_ 17 0) ≤ x52_9 then (k52_144 x52_3 x52_8 σ52_) else (if x52_8 = (0 : Int32) then (f_X8_drawn_j105 x52_7 x52_9 (f_X8_drawn_L52 k52_144 n52) (((x52_3 * (1103515245 : Int64)) + (12345 : Int64)) - ((x52_3 * (1103515245 : Int64)) + (12345 : Int64)) / (2147483648 : Int64) * (2147483648 : Int64)) (((((((x52_3 * (1103515245 : Int64)) + (12345 : Int64)) - ((x52_3 * (1103515245 : Int64)) + (12345 : Int64)) / (2147483648 : Int64) * (2147483648 : Int64)) / (65536 : Int64)) - ((((x52_3 * (1103515245 : Int64)) + (12345 : Int64)) - ((x52_3 * (1103515245 : Int64)) + (12345 : Int64)) / (2147483648 : Int64) * (2147483648 : Int64)) / (65536 : Int64)) / (9 : Int64) * (9 : Int64))).toInt32 + (1 : Int32)) σ52_) else (if x52_7 < (((((((x52_3 * (1103515245 : Int64)) + (12345 : Int64)) - ((x52_3 * (1103515245 : Int64)) + (12345 : Int64)) / (2147483648 : Int64) * (2147483648 : Int64)) / (65536 : Int64)) - ((((x52_3 * (1103515245 : Int64)) + (12345 : Int64)) - ((x52_3 * (1103515245 : Int64)) + (12345 : Int64)) / (2147483648 : Int64) * (2147483648 : Int64)) / (65536 : Int64)) / (9 : Int64) * (9 : Int64))).toInt32 + (1 : Int32)) then (f_X8_drawn_j105 x52_7 x52_9 (f_X8_drawn_L52 k52_144 n52) (((x52_3 * (1103515245 : Int64)) + (12345 : Int64)) - ((x52_3 * (1103515245 : Int64)) + (12345 : Int64)) / (2147483648 : Int64) * (2147483648 : Int64)) (((((((x52_3 * (1103515245 : Int64)) + (12345 : Int64)) - ((x52_3 * (1103515245 : Int64)) + (12345 : Int64)) / (2147483648 : Int64) * (2147483648 : Int64)) / (65536 : Int64)) - ((((x52_3 * (1103515245 : Int64)) + (12345 : Int64)) - ((x52_3 * (1103515245 : Int64)) + (12345 : Int64)) / (2147483648 : Int64) * (2147483648 : Int64)) / (65536 : Int64)) / (9 : Int64) * (9 : Int64))).toInt32 + (1 : Int32)) σ52_) else (f_X8_drawn_j106 x52_7 x52_9 (f_X8_drawn_L52 k52_144 n52) (((x52_3 * (1103515245 : Int64)) + (12345 : Int64)) - ((x52_3 * (1103515245 : Int64)) + (12345 : Int64)) / (2147483648 : Int64) * (2147483648 : Int64)) (((((((x52_3 * (1103515245 : Int64)) + (12345 : Int64)) - ((x52_3 * (1103515245 : Int64)) + (12345 : Int64)) / (2147483648 : Int64) * (2147483648 : Int64)) / (65536 : Int64)) - ((((x52_3 * (1103515245 : Int64)) + (12345 : Int64)) - ((x52_3 * (1103515245 : Int64)) + (12345 : Int64)) / (2147483648 : Int64) * (2147483648 : Int64)) / (65536 : Int64)) / (9 : Int64) * (9 : Int64))).toInt32 + (1 : Int32)) (1 : Int32) σ52_)))
def f_X8_drawn_L34 (p1 : Int32) : Nat → Int64 → Int32 → Int32 → ss_M → Option (Int32 × ss_M)
  | 0, _, _, _, _ => none
  | n34 + 1, x34_3, x34_5, x34_6, σ34_ => if p1 ≤ x34_6 then (some (x34_5, σ34_)) else (f_X8_drawn_L52 (f_X8_drawn_j144 x34_5 x34_6 (f_X8_drawn_L34 p1 n34)) FU x34_3 (sG σ34_ 18 0) (1 : Int32) (0 : Int32) σ34_)
def f_X8_drawn (p0 : Int32) (p1 : Int32) (σ : ss_M) : Option (Int32 × ss_M) :=
  ss_bd (f_X8_in p0 (0 : Int32) (999999 : Int32) σ) (fun r1 σ1 => if r1 = (0 : Int32) then (f_X8_drawn_j20 σ1) else (ss_bd (f_X8_in p1 (0 : Int32) (60 : Int32) σ1) (fun r4 σ4 => if r4 = (0 : Int32) then (f_X8_drawn_j20 σ4) else (f_X8_drawn_L34 p1 FU ((p0).toInt64) (0 : Int32) (0 : Int32) σ4))))
def rm_X8_drawn : Room := { frames := 4, cells := 0, slots := 0, locals := 200 }
theorem hd_X8_drawn : yX8_drawn.cls = RX8 ∧ yX8_drawn.cls ≠ "java/lang/invoke/MethodHandle" ∧ yX8_drawn.cls ≠ "java/lang/invoke/VarHandle" ∧ (parseMethodDescriptor yX8_drawn.desc).map (fun d => d.parameters.length) = some 2 := by decide +kernel
set_option maxHeartbeats 4000000 in
set_option maxRecDepth 100000 in
theorem c_X8_drawn (l : Launch) {D : va_G} {Y : Nat → ClassId} {A : ss_A} (hAD : AD 1 A) {p0 : Int32} {p1 : Int32}  {r : Int32} {σ σ' : ss_M} (hf : f_X8_drawn p0 p1 σ = some (r, σ')) : Met l yX8_drawn wsX8_drawn rm_X8_drawn (Pc0 1 D Y A σ [.ref (A 0 7 0), .int p0, .int p1]) (Qi0 1 D Y A r σ') 0 0 (FA 1 A) := by
  rw [f_X8_drawn] at hf
  refine Met0 (cc := cX8_drawn) (maxL := 11) (ret := (some .int)) (own := RX8) (by decide +kernel) rfl hAD rfl (Nat.le_of_ble_eq_true rfl) ?_
  intro p e s m args below meth c S hr hlocks hW ls hl
  obtain ⟨hx, hb, hml, hown, hts⟩ := id S
  have iX8 : ∀ q ∈ wsX80, q ∈ wsX8_drawn := fun q h => List.mem_cons_of_mem _ (List.mem_append_right _ (h))
  have hl : lv_has ls 11 [(0, .ref (A 0 7 0)), (1, .int p0), (2, .int p1)] := hl
  refine lv_iload_n hx hb dX8_drawn_0 rfl (lv_at hl 1 rfl) ?_
  refine lv_iconst (v := (0 : Int32)) hx hb dX8_drawn_1 (by decide) ?_
  refine lv_ldc hx hb hown (hts _ (List.mem_of_getElem? (i := 1) rfl)) dX8_drawn_2 ?_
  obtain ⟨r1, σ1, hf1, hf⟩ := ss_bd_some hf
  refine rt_i S (c_X8_in l hAD  hf1) (va_cwS 3 hts gX8_drawn_X8_in rfl rfl rfl hd_X8_in ⟨(Nat.le_of_ble_eq_true rfl), (Nat.le_of_ble_eq_true rfl)⟩) hW rfl rfl hl.1 (Nat.le_of_ble_eq_true rfl) ⟨Nat.zero_le _, Nat.zero_le _⟩ dX8_drawn_4 (fun H locs hW => ?_)
  have J20 : ∀ (σ20_ : ss_M) (H : Heap) (locs : List Loc) (ls : Array Slot), sW 1 D Y A σ20_ s s.heap H locs → lv_has ls 11 [(0, .ref (A 0 7 0))] → f_X8_drawn_j20 σ20_ = some (r, σ') → W p l e rm_X8_drawn s m args below meth c H locs 0 0 (MQ below (Qi0 1 D Y A r σ') args s 0 0 (FA 1 A)) (F0 m 20 ls []) := by
    intro σ20_ H locs ls hW hl hf
    rw [f_X8_drawn_j20] at hf
    refine lv_aload_n hx hb dX8_drawn_20 rfl (lv_at hl 0 rfl) ?_
    obtain ⟨r2, σ2, hf2, hf⟩ := ss_bd_some hf
    refine rv_i S (c_X8_bad l hAD  hf2) (cwV 0 hts gX8_drawn_X8_bad rfl rfl rfl hd_X8_bad ⟨(Nat.le_of_ble_eq_true rfl), (Nat.le_of_ble_eq_true rfl)⟩) hW (kS_in (by decide)) rfl rfl rfl hl.1 (Nat.le_of_ble_eq_true rfl) ⟨Nat.zero_le _, Nat.zero_le _⟩ dX8_drawn_21 (fun H locs hW => ?_)
    exact re_i hx hb hr hlocks hW (Option.some.inj hf) dX8_drawn_24
  refine lv_if_eq (tgt := 20) hx hb dX8_drawn_7 (by decide) (fun q3 => ?_) (fun q3 => ?_)
  · rw [if_pos q3] at hf
    exact J20 σ1 _ _ _ hW (lv_sub hl [0] rfl) hf
  · rw [if_neg q3] at hf
    refine lv_iload_n hx hb dX8_drawn_10 rfl (lv_at hl 2 rfl) ?_
    refine lv_iconst (v := (0 : Int32)) hx hb dX8_drawn_11 (by decide) ?_
    refine lv_bipush (v := (60 : Int32)) hx hb dX8_drawn_12 (by decide) ?_
    obtain ⟨r4, σ4, hf4, hf⟩ := ss_bd_some hf
    refine rt_i S (c_X8_in l hAD  hf4) (va_cwS 3 hts gX8_drawn_X8_in rfl rfl rfl hd_X8_in ⟨(Nat.le_of_ble_eq_true rfl), (Nat.le_of_ble_eq_true rfl)⟩) hW rfl rfl hl.1 (Nat.le_of_ble_eq_true rfl) ⟨Nat.zero_le _, Nat.zero_le _⟩ dX8_drawn_14 (fun H locs hW => ?_)
    refine lv_if_ne (tgt := 25) hx hb dX8_drawn_17 (by decide) (fun q5 => ?_) (fun q5 => ?_)
    · rw [if_neg q5] at hf
      refine lv_iload_n hx hb dX8_drawn_25 rfl (lv_at hl 1 rfl) ?_
      refine lv_i2l hx hb dX8_drawn_26 rfl ?_
      refine lv_lstore_n (lv' := [(3, .long ((p0).toInt64)), (0, .ref (A 0 7 0)), (1, .int p0), (2, .int p1)]) hx hb dX8_drawn_27 rfl hl (by decide) rfl (fun ls hl => ?_)
      refine lv_iconst (v := (0 : Int32)) hx hb dX8_drawn_28 (by decide) ?_
      refine lv_istore (lv' := [(5, .int (0 : Int32)), (3, .long ((p0).toInt64)), (0, .ref (A 0 7 0)), (1, .int p0), (2, .int p1)]) hx hb dX8_drawn_29 hl (by decide) rfl (fun ls hl => ?_)
      refine lv_iconst (v := (0 : Int32)) hx hb dX8_drawn_31 (by decide) ?_
      refine lv_istore (lv' := [(6, .int (0 : Int32)), (5, .int (0 : Int32)), (3, .long ((p0).toInt64)), (0, .ref (A 0 7 0)), (1, .int p0), (2, .int p1)]) hx hb dX8_drawn_32 hl (by decide) rfl (fun ls hl => ?_)
      have L34 : ∀ (n34 : Nat), ∀ (x34_3 : Int64) (x34_5 : Int32) (x34_6 : Int32) (σ34_ : ss_M) (H : Heap) (locs : List Loc) (ls : Array Slot), sW 1 D Y A σ34_ s s.heap H locs → lv_has ls 11 [(0, .ref (A 0 7 0)), (2, .int p1), (3, .long x34_3), (5, .int x34_5), (6, .int x34_6)] → f_X8_drawn_L34 p1 n34 x34_3 x34_5 x34_6 σ34_ = some (r, σ') → W p l e rm_X8_drawn s m args below meth c H locs 0 0 (MQ below (Qi0 1 D Y A r σ') args s 0 0 (FA 1 A)) (F0 m 34 ls []) := by
        intro n34
        induction n34 with
        | zero =>
          intro x34_3 x34_5 x34_6 σ34_ H locs ls hW hl hf
          rw [f_X8_drawn_L34] at hf
          cases hf
        | succ n34 ih34 =>
          intro x34_3 x34_5 x34_6 σ34_ H locs ls hW hl hf
          rw [f_X8_drawn_L34] at hf
          refine lv_iload hx hb dX8_drawn_34 (lv_at hl 4 rfl) ?_
          refine lv_iload_n hx hb dX8_drawn_36 rfl (lv_at hl 1 rfl) ?_
          refine lv_icmp_ge (tgt := 165) hx hb dX8_drawn_37 (by decide) (fun q6 => ?_) (fun q6 => ?_)
          · rw [if_pos q6] at hf
            refine lv_iload hx hb dX8_drawn_165 (lv_at hl 3 rfl) ?_
            exact re_i hx hb hr hlocks hW (Option.some.inj hf) dX8_drawn_167
          · rw [if_neg q6] at hf
            refine lv_aload_n hx hb dX8_drawn_40 rfl (lv_at hl 0 rfl) ?_
            refine gf_X8_breath hx hb hts hown hW (kS_in (by decide)) iX8 (List.mem_of_getElem? (i := 2) rfl) dX8_drawn_41 ?_
            refine lv_istore (lv' := [(7, .int (sG σ34_ 18 0)), (0, .ref (A 0 7 0)), (2, .int p1), (3, .long x34_3), (5, .int x34_5), (6, .int x34_6)]) hx hb dX8_drawn_44 hl (by decide) rfl (fun ls hl => ?_)
            refine lv_iconst (v := (1 : Int32)) hx hb dX8_drawn_46 (by decide) ?_
            refine lv_istore (lv' := [(8, .int (1 : Int32)), (7, .int (sG σ34_ 18 0)), (0, .ref (A 0 7 0)), (2, .int p1), (3, .long x34_3), (5, .int x34_5), (6, .int x34_6)]) hx hb dX8_drawn_47 hl (by decide) rfl (fun ls hl => ?_)
            refine lv_iconst (v := (0 : Int32)) hx hb dX8_drawn_49 (by decide) ?_
            refine lv_istore (lv' := [(9, .int (0 : Int32)), (8, .int (1 : Int32)), (7, .int (sG σ34_ 18 0)), (0, .ref (A 0 7 0)), (2, .int p1), (3, .long x34_3), (5, .int x34_5), (6, .int x34_6)]) hx hb dX8_drawn_50 hl (by decide) rfl (fun ls hl => ?_)
            have J144 : ∀ (x144_3 : Int64) (x144_8 : Int32) (σ144_ : ss_M) (H : Heap) (locs : List Loc) (ls : Array Slot), sW 1 D Y A σ144_ s s.heap H locs → lv_has ls 11 [(0, .ref (A 0 7 0)), (2, .int p1), (3, .long x144_3), (5, .int x34_5), (6, .int x34_6), (8, .int x144_8)] → f_X8_drawn_j144 x34_5 x34_6 (f_X8_drawn_L34 p1 n34) x144_3 x144_8 σ144_ = some (r, σ') → W p l e rm_X8_drawn s m args below meth c H locs 0 0 (MQ below (Qi0 1 D Y A r σ') args s 0 0 (FA 1 A)) (F0 m 144 ls []) := by
              intro x144_3 x144_8 σ144_ H locs ls hW hl hf
              rw [f_X8_drawn_j144] at hf
              refine lv_iload hx hb dX8_drawn_144 (lv_at hl 3 rfl) ?_
              refine lv_iload hx hb dX8_drawn_146 (lv_at hl 5 rfl) ?_
              have J156 : ∀ (s156_0 : Int32) (σ156_ : ss_M) (H : Heap) (locs : List Loc) (ls : Array Slot), sW 1 D Y A σ156_ s s.heap H locs → lv_has ls 11 [(0, .ref (A 0 7 0)), (2, .int p1), (3, .long x144_3), (6, .int x34_6)] → f_X8_drawn_j156 x34_5 x34_6 (f_X8_drawn_L34 p1 n34) x144_3 s156_0 σ156_ = some (r, σ') → W p l e rm_X8_drawn s m args below meth c H locs 0 0 (MQ below (Qi0 1 D Y A r σ') args s 0 0 (FA 1 A)) (F0 m 156 ls [.int s156_0, .int x34_5]) := by
                intro s156_0 σ156_ H locs ls hW hl hf
                rw [f_X8_drawn_j156] at hf
                refine lv_iadd hx hb dX8_drawn_156 ?_
                refine lv_istore (lv' := [(5, .int (x34_5 + s156_0)), (0, .ref (A 0 7 0)), (2, .int p1), (3, .long x144_3), (6, .int x34_6)]) hx hb dX8_drawn_157 hl (by decide) rfl (fun ls hl => ?_)
                refine lv_iinc (v := (x34_6 + (1 : Int32))) (lv' := [(6, .int (x34_6 + (1 : Int32))), (5, .int (x34_5 + s156_0)), (0, .ref (A 0 7 0)), (2, .int p1), (3, .long x144_3)]) hx hb dX8_drawn_159 hl (k := 4) rfl rfl (by decide) rfl (fun ls hl => ?_)
                refine lv_goto (tgt := 34) hx hb dX8_drawn_162 (by decide) ?_
                exact ih34 x144_3 (x34_5 + s156_0) (x34_6 + (1 : Int32)) σ156_ _ _ _ hW (lv_sub hl [2, 3, 4, 1, 0] rfl) hf
              refine lv_if_eq (tgt := 155) hx hb dX8_drawn_148 (by decide) (fun q7 => ?_) (fun q7 => ?_)
              · rw [if_pos q7] at hf
                refine lv_iconst (v := (0 : Int32)) hx hb dX8_drawn_155 (by decide) ?_
                exact J156 (0 : Int32) σ144_ _ _ _ hW (lv_sub hl [0, 1, 2, 4] rfl) hf
              · rw [if_neg q7] at hf
                refine lv_iconst (v := (1 : Int32)) hx hb dX8_drawn_151 (by decide) ?_
                refine lv_goto (tgt := 156) hx hb dX8_drawn_152 (by decide) ?_
                exact J156 (1 : Int32) σ144_ _ _ _ hW (lv_sub hl [0, 1, 2, 4] rfl) hf
            have L52 : ∀ (n52 : Nat), ∀ (x52_3 : Int64) (x52_7 : Int32) (x52_8 : Int32) (x52_9 : Int32) (σ52_ : ss_M) (H : Heap) (locs : List Loc) (ls : Array Slot), sW 1 D Y A σ52_ s s.heap H locs → lv_has ls 11 [(0, .ref (A 0 7 0)), (2, .int p1), (3, .long x52_3), (5, .int x34_5), (6, .int x34_6), (7, .int x52_7), (8, .int x52_8), (9, .int x52_9)] → f_X8_drawn_L52 (f_X8_drawn_j144 x34_5 x34_6 (f_X8_drawn_L34 p1 n34)) n52 x52_3 x52_7 x52_8 x52_9 σ52_ = some (r, σ') → W p l e rm_X8_drawn s m args below meth c H locs 0 0 (MQ below (Qi0 1 D Y A r σ') args s 0 0 (FA 1 A)) (F0 m 52 ls []) := by
              intro n52
              induction n52 with
              | zero =>
                intro x52_3 x52_7 x52_8 x52_9 σ52_ H locs ls hW hl hf
                rw [f_X8_drawn_L52] at hf
                cases hf
              | succ n52 ih52 =>
                intro x52_3 x52_7 x52_8 x52_9 σ52_ H locs ls hW hl hf
                rw [f_X8_drawn_L52] at hf
                refine lv_iload hx hb dX8_drawn_52 (lv_at hl 7 rfl) ?_
                refine lv_aload_n hx hb dX8_drawn_54 rfl (lv_at hl 0 rfl) ?_
                refine gf_X8_many hx hb hts hown hW (kS_in (by decide)) iX8 (List.mem_of_getElem? (i := 3) rfl) dX8_drawn_55 ?_
                refine lv_icmp_ge (tgt := 144) hx hb dX8_drawn_58 (by decide) (fun q8 => ?_) (fun q8 => ?_)
                · rw [if_pos q8] at hf
                  exact J144 x52_3 x52_8 σ52_ _ _ _ hW (lv_sub hl [0, 1, 2, 3, 4, 6] rfl) hf
                · rw [if_neg q8] at hf
                  refine lv_lload_n hx hb dX8_drawn_61 rfl (lv_at hl 2 rfl) ?_
                  refine lv_ldc2 hx hb hown (hts _ (List.mem_of_getElem? (i := 4) rfl)) dX8_drawn_62 ?_
                  refine lv_lmul hx hb dX8_drawn_65 ?_
                  refine lv_ldc2 hx hb hown (hts _ (List.mem_of_getElem? (i := 5) rfl)) dX8_drawn_66 ?_
                  refine lv_ladd hx hb dX8_drawn_69 ?_
                  refine lv_ldc2 hx hb hown (hts _ (List.mem_of_getElem? (i := 6) rfl)) dX8_drawn_70 ?_
                  refine lv_lrem hx hb dX8_drawn_73 (by decide) ?_
                  refine lv_lstore_n (lv' := [(3, .long (((x52_3 * (1103515245 : Int64)) + (12345 : Int64)) - ((x52_3 * (1103515245 : Int64)) + (12345 : Int64)) / (2147483648 : Int64) * (2147483648 : Int64))), (0, .ref (A 0 7 0)), (2, .int p1), (5, .int x34_5), (6, .int x34_6), (7, .int x52_7), (8, .int x52_8), (9, .int x52_9)]) hx hb dX8_drawn_74 rfl hl (by decide) rfl (fun ls hl => ?_)
                  refine lv_lload_n hx hb dX8_drawn_75 rfl (lv_at hl 0 rfl) ?_
                  refine lv_ldc2 hx hb hown (hts _ (List.mem_of_getElem? (i := 7) rfl)) dX8_drawn_76 ?_
                  refine lv_ldiv hx hb dX8_drawn_79 (by decide) ?_
                  refine lv_ldc2 hx hb hown (hts _ (List.mem_of_getElem? (i := 8) rfl)) dX8_drawn_80 ?_
                  refine lv_lrem hx hb dX8_drawn_83 (by decide) ?_
                  refine lv_l2i hx hb dX8_drawn_84 rfl ?_
                  refine lv_iconst (v := (1 : Int32)) hx hb dX8_drawn_85 (by decide) ?_
                  refine lv_iadd hx hb dX8_drawn_86 ?_
                  refine lv_istore (lv' := [(10, .int (((((((x52_3 * (1103515245 : Int64)) + (12345 : Int64)) - ((x52_3 * (1103515245 : Int64)) + (12345 : Int64)) / (2147483648 : Int64) * (2147483648 : Int64)) / (65536 : Int64)) - ((((x52_3 * (1103515245 : Int64)) + (12345 : Int64)) - ((x52_3 * (1103515245 : Int64)) + (12345 : Int64)) / (2147483648 : Int64) * (2147483648 : Int64)) / (65536 : Int64)) / (9 : Int64) * (9 : Int64))).toInt32 + (1 : Int32))), (3, .long (((x52_3 * (1103515245 : Int64)) + (12345 : Int64)) - ((x52_3 * (1103515245 : Int64)) + (12345 : Int64)) / (2147483648 : Int64) * (2147483648 : Int64))), (0, .ref (A 0 7 0)), (2, .int p1), (5, .int x34_5), (6, .int x34_6), (7, .int x52_7), (8, .int x52_8), (9, .int x52_9)]) hx hb dX8_drawn_87 hl (by decide) rfl (fun ls hl => ?_)
                  refine lv_iload hx hb dX8_drawn_89 (lv_at hl 7 rfl) ?_
                  have J106 : ∀ (x106_3 : Int64) (x106_10 : Int32) (s106_0 : Int32) (σ106_ : ss_M) (H : Heap) (locs : List Loc) (ls : Array Slot), sW 1 D Y A σ106_ s s.heap H locs → lv_has ls 11 [(0, .ref (A 0 7 0)), (2, .int p1), (3, .long x106_3), (5, .int x34_5), (6, .int x34_6), (7, .int x52_7), (9, .int x52_9), (10, .int x106_10)] → f_X8_drawn_j106 x52_7 x52_9 (f_X8_drawn_L52 (f_X8_drawn_j144 x34_5 x34_6 (f_X8_drawn_L34 p1 n34)) n52) x106_3 x106_10 s106_0 σ106_ = some (r, σ') → W p l e rm_X8_drawn s m args below meth c H locs 0 0 (MQ below (Qi0 1 D Y A r σ') args s 0 0 (FA 1 A)) (F0 m 106 ls [.int s106_0]) := by
                    intro x106_3 x106_10 s106_0 σ106_ H locs ls hW hl hf
                    rw [f_X8_drawn_j106] at hf
                    refine lv_istore (lv' := [(8, .int s106_0), (0, .ref (A 0 7 0)), (2, .int p1), (3, .long x106_3), (5, .int x34_5), (6, .int x34_6), (7, .int x52_7), (9, .int x52_9), (10, .int x106_10)]) hx hb dX8_drawn_106 hl (by decide) rfl (fun ls hl => ?_)
                    refine lv_iload hx hb dX8_drawn_108 (lv_at hl 0 rfl) ?_
                    have J136 : ∀ (s136_0 : Int32) (σ136_ : ss_M) (H : Heap) (locs : List Loc) (ls : Array Slot), sW 1 D Y A σ136_ s s.heap H locs → lv_has ls 11 [(0, .ref (A 0 7 0)), (2, .int p1), (3, .long x106_3), (5, .int x34_5), (6, .int x34_6), (8, .int s106_0), (9, .int x52_9)] → f_X8_drawn_j136 x52_9 (f_X8_drawn_L52 (f_X8_drawn_j144 x34_5 x34_6 (f_X8_drawn_L34 p1 n34)) n52) x106_3 s106_0 s136_0 σ136_ = some (r, σ') → W p l e rm_X8_drawn s m args below meth c H locs 0 0 (MQ below (Qi0 1 D Y A r σ') args s 0 0 (FA 1 A)) (F0 m 136 ls [.int s136_0]) := by
                      intro s136_0 σ136_ H locs ls hW hl hf
                      rw [f_X8_drawn_j136] at hf
                      refine lv_istore (lv' := [(7, .int s136_0), (0, .ref (A 0 7 0)), (2, .int p1), (3, .long x106_3), (5, .int x34_5), (6, .int x34_6), (8, .int s106_0), (9, .int x52_9)]) hx hb dX8_drawn_136 hl (by decide) rfl (fun ls hl => ?_)
                      refine lv_iinc (v := (x52_9 + (1 : Int32))) (lv' := [(9, .int (x52_9 + (1 : Int32))), (7, .int s136_0), (0, .ref (A 0 7 0)), (2, .int p1), (3, .long x106_3), (5, .int x34_5), (6, .int x34_6), (8, .int s106_0)]) hx hb dX8_drawn_138 hl (k := 7) rfl rfl (by decide) rfl (fun ls hl => ?_)
                      refine lv_goto (tgt := 52) hx hb dX8_drawn_141 (by decide) ?_
                      exact ih52 x106_3 s136_0 s106_0 (x52_9 + (1 : Int32)) σ136_ _ _ _ hW (lv_sub hl [2, 3, 4, 5, 6, 1, 7, 0] rfl) hf
                    refine lv_if_eq (tgt := 135) hx hb dX8_drawn_110 (by decide) (fun q9 => ?_) (fun q9 => ?_)
                    · rw [if_pos q9] at hf
                      refine lv_iconst (v := (0 : Int32)) hx hb dX8_drawn_135 (by decide) ?_
                      exact J136 (0 : Int32) σ106_ _ _ _ hW (lv_sub hl [1, 2, 3, 4, 5, 0, 7] rfl) hf
                    · rw [if_neg q9] at hf
                      refine lv_aload_n hx hb dX8_drawn_113 rfl (lv_at hl 1 rfl) ?_
                      refine gf_X8_kinds hx hb hts hown hW (kS_in (by decide)) iX8 (List.mem_of_getElem? (i := 9) rfl) dX8_drawn_114 ?_
                      refine lv_iload hx hb dX8_drawn_117 (lv_at hl 7 rfl) ?_
                      obtain ⟨g10, hf⟩ := ss_if hf
                      refine ra_i hx hb hW (kS_in (by decide)) g10 dX8_drawn_119 ?_
                      refine lv_iload hx hb dX8_drawn_120 (lv_at hl 6 rfl) ?_
                      refine lv_iload hx hb dX8_drawn_122 (lv_at hl 8 rfl) ?_
                      refine lv_isub hx hb dX8_drawn_124 ?_
                      refine lv_aload_n hx hb dX8_drawn_125 rfl (lv_at hl 1 rfl) ?_
                      refine gf_X8_breath hx hb hts hown hW (kS_in (by decide)) iX8 (List.mem_of_getElem? (i := 2) rfl) dX8_drawn_126 ?_
                      obtain ⟨r11, σ11, hf11, hf⟩ := ss_bd_some hf
                      refine rt_i S (c_X8_givenBy l hAD  hf11) (va_cwS 3 hts gX8_drawn_X8_givenBy rfl rfl rfl hd_X8_givenBy ⟨(Nat.le_of_ble_eq_true rfl), (Nat.le_of_ble_eq_true rfl)⟩) hW rfl rfl hl.1 (Nat.le_of_ble_eq_true rfl) ⟨Nat.zero_le _, Nat.zero_le _⟩ dX8_drawn_129 (fun H locs hW => ?_)
                      refine lv_goto (tgt := 136) hx hb dX8_drawn_132 (by decide) ?_
                      exact J136 r11 σ11 _ _ _ hW (lv_sub hl [1, 2, 3, 4, 5, 0, 7] rfl) hf
                  have J105 : ∀ (x105_3 : Int64) (x105_10 : Int32) (σ105_ : ss_M) (H : Heap) (locs : List Loc) (ls : Array Slot), sW 1 D Y A σ105_ s s.heap H locs → lv_has ls 11 [(0, .ref (A 0 7 0)), (2, .int p1), (3, .long x105_3), (5, .int x34_5), (6, .int x34_6), (7, .int x52_7), (9, .int x52_9), (10, .int x105_10)] → f_X8_drawn_j105 x52_7 x52_9 (f_X8_drawn_L52 (f_X8_drawn_j144 x34_5 x34_6 (f_X8_drawn_L34 p1 n34)) n52) x105_3 x105_10 σ105_ = some (r, σ') → W p l e rm_X8_drawn s m args below meth c H locs 0 0 (MQ below (Qi0 1 D Y A r σ') args s 0 0 (FA 1 A)) (F0 m 105 ls []) := by
                    intro x105_3 x105_10 σ105_ H locs ls hW hl hf
                    rw [f_X8_drawn_j105] at hf
                    refine lv_iconst (v := (0 : Int32)) hx hb dX8_drawn_105 (by decide) ?_
                    exact J106 x105_3 x105_10 (0 : Int32) σ105_ _ _ _ hW (lv_sub hl [0, 1, 2, 3, 4, 5, 6, 7] rfl) hf
                  refine lv_if_eq (tgt := 105) hx hb dX8_drawn_91 (by decide) (fun q12 => ?_) (fun q12 => ?_)
                  · rw [if_pos q12] at hf
                    exact J105 (((x52_3 * (1103515245 : Int64)) + (12345 : Int64)) - ((x52_3 * (1103515245 : Int64)) + (12345 : Int64)) / (2147483648 : Int64) * (2147483648 : Int64)) (((((((x52_3 * (1103515245 : Int64)) + (12345 : Int64)) - ((x52_3 * (1103515245 : Int64)) + (12345 : Int64)) / (2147483648 : Int64) * (2147483648 : Int64)) / (65536 : Int64)) - ((((x52_3 * (1103515245 : Int64)) + (12345 : Int64)) - ((x52_3 * (1103515245 : Int64)) + (12345 : Int64)) / (2147483648 : Int64) * (2147483648 : Int64)) / (65536 : Int64)) / (9 : Int64) * (9 : Int64))).toInt32 + (1 : Int32)) σ52_ _ _ _ hW (lv_sub hl [2, 3, 1, 4, 5, 6, 8, 0] rfl) hf
                  · rw [if_neg q12] at hf
                    refine lv_iload hx hb dX8_drawn_94 (lv_at hl 0 rfl) ?_
                    refine lv_iload hx hb dX8_drawn_96 (lv_at hl 6 rfl) ?_
                    refine lv_icmp_gt (tgt := 105) hx hb dX8_drawn_98 (by decide) (fun q13 => ?_) (fun q13 => ?_)
                    · rw [if_pos q13] at hf
                      exact J105 (((x52_3 * (1103515245 : Int64)) + (12345 : Int64)) - ((x52_3 * (1103515245 : Int64)) + (12345 : Int64)) / (2147483648 : Int64) * (2147483648 : Int64)) (((((((x52_3 * (1103515245 : Int64)) + (12345 : Int64)) - ((x52_3 * (1103515245 : Int64)) + (12345 : Int64)) / (2147483648 : Int64) * (2147483648 : Int64)) / (65536 : Int64)) - ((((x52_3 * (1103515245 : Int64)) + (12345 : Int64)) - ((x52_3 * (1103515245 : Int64)) + (12345 : Int64)) / (2147483648 : Int64) * (2147483648 : Int64)) / (65536 : Int64)) / (9 : Int64) * (9 : Int64))).toInt32 + (1 : Int32)) σ52_ _ _ _ hW (lv_sub hl [2, 3, 1, 4, 5, 6, 8, 0] rfl) hf
                    · rw [if_neg q13] at hf
                      refine lv_iconst (v := (1 : Int32)) hx hb dX8_drawn_101 (by decide) ?_
                      refine lv_goto (tgt := 106) hx hb dX8_drawn_102 (by decide) ?_
                      exact J106 (((x52_3 * (1103515245 : Int64)) + (12345 : Int64)) - ((x52_3 * (1103515245 : Int64)) + (12345 : Int64)) / (2147483648 : Int64) * (2147483648 : Int64)) (((((((x52_3 * (1103515245 : Int64)) + (12345 : Int64)) - ((x52_3 * (1103515245 : Int64)) + (12345 : Int64)) / (2147483648 : Int64) * (2147483648 : Int64)) / (65536 : Int64)) - ((((x52_3 * (1103515245 : Int64)) + (12345 : Int64)) - ((x52_3 * (1103515245 : Int64)) + (12345 : Int64)) / (2147483648 : Int64) * (2147483648 : Int64)) / (65536 : Int64)) / (9 : Int64) * (9 : Int64))).toInt32 + (1 : Int32)) (1 : Int32) σ52_ _ _ _ hW (lv_sub hl [2, 3, 1, 4, 5, 6, 8, 0] rfl) hf
            exact L52 FU x34_3 (sG σ34_ 18 0) (1 : Int32) (0 : Int32) σ34_ _ _ _ hW (lv_sub hl [3, 4, 5, 6, 7, 2, 1, 0] rfl) hf
      exact L34 FU ((p0).toInt64) (0 : Int32) (0 : Int32) σ4 _ _ _ hW (lv_sub hl [3, 5, 2, 1, 0] rfl) hf
    · rw [if_pos q5] at hf
      exact J20 σ4 _ _ _ hW (lv_sub hl [0] rfl) hf
def f_X8_part (p0 : Int32) (σ : ss_M) : Option (Int64 × ss_M) :=
  if p0 = (0 : Int32) then (some ((sL σ 2), σ)) else (if p0 = (1 : Int32) then (some ((sL σ 3), σ)) else (ss_bd (f_X8_bad σ) (fun r3 σ3 => some ((r3).toInt64, σ3))))
def rm_X8_part : Room := { frames := 2, cells := 0, slots := 0, locals := 100 }
theorem hd_X8_part : yX8_part.cls = RX8 ∧ yX8_part.cls ≠ "java/lang/invoke/MethodHandle" ∧ yX8_part.cls ≠ "java/lang/invoke/VarHandle" ∧ (parseMethodDescriptor yX8_part.desc).map (fun d => d.parameters.length) = some 1 := by decide +kernel
set_option maxHeartbeats 4000000 in
set_option maxRecDepth 100000 in
theorem c_X8_part (l : Launch) {D : va_G} {Y : Nat → ClassId} {A : ss_A} (hAD : AD 1 A) {p0 : Int32}  {r : Int64} {σ σ' : ss_M} (hf : f_X8_part p0 σ = some (r, σ')) : Met l yX8_part wsX8_part rm_X8_part (Pc0 1 D Y A σ [.ref (A 0 7 0), .int p0]) (Ql0 1 D Y A r σ') 0 0 (FA 1 A) := by
  rw [f_X8_part] at hf
  refine Met0 (cc := cX8_part) (maxL := 2) (ret := (some .long)) (own := RX8) (by decide +kernel) rfl hAD rfl (Nat.le_of_ble_eq_true rfl) ?_
  intro p e s m args below meth c S hr hlocks hW ls hl
  obtain ⟨hx, hb, hml, hown, hts⟩ := id S
  have iX8 : ∀ q ∈ wsX80, q ∈ wsX8_part := fun q h => List.mem_cons_of_mem _ (List.mem_append_right _ (h))
  have hl : lv_has ls 2 [(0, .ref (A 0 7 0)), (1, .int p0)] := hl
  refine lv_iload_n hx hb dX8_part_0 rfl (lv_at hl 1 rfl) ?_
  refine lv_if_ne (tgt := 11) hx hb dX8_part_1 (by decide) (fun q1 => ?_) (fun q1 => ?_)
  · rw [if_neg q1] at hf
    refine lv_iload_n hx hb dX8_part_11 rfl (lv_at hl 1 rfl) ?_
    refine lv_iconst (v := (1 : Int32)) hx hb dX8_part_12 (by decide) ?_
    refine lv_icmp_ne (tgt := 23) hx hb dX8_part_13 (by decide) (fun q2 => ?_) (fun q2 => ?_)
    · rw [if_neg q2] at hf
      refine lv_aload_n hx hb dX8_part_23 rfl (lv_at hl 0 rfl) ?_
      obtain ⟨r3, σ3, hf3, hf⟩ := ss_bd_some hf
      refine rv_i S (c_X8_bad l hAD  hf3) (cwV 0 hts gX8_part_X8_bad rfl rfl rfl hd_X8_bad ⟨(Nat.le_of_ble_eq_true rfl), (Nat.le_of_ble_eq_true rfl)⟩) hW (kS_in (by decide)) rfl rfl rfl hl.1 (Nat.le_of_ble_eq_true rfl) ⟨Nat.zero_le _, Nat.zero_le _⟩ dX8_part_24 (fun H locs hW => ?_)
      refine lv_i2l hx hb dX8_part_27 rfl ?_
      exact re_l hx hb hr hlocks hW (Option.some.inj hf) dX8_part_28
    · rw [if_pos q2] at hf
      refine lv_aload_n hx hb dX8_part_16 rfl (lv_at hl 0 rfl) ?_
      refine gf_X8_below hx hb hts hown hW (kS_in (by decide)) iX8 (List.mem_of_getElem? (i := 2) rfl) dX8_part_17 ?_
      refine lv_goto (tgt := 28) hx hb dX8_part_20 (by decide) ?_
      exact re_l hx hb hr hlocks hW (Option.some.inj hf) dX8_part_28
  · rw [if_pos q1] at hf
    refine lv_aload_n hx hb dX8_part_4 rfl (lv_at hl 0 rfl) ?_
    refine gf_X8_above hx hb hts hown hW (kS_in (by decide)) iX8 (List.mem_of_getElem? (i := 1) rfl) dX8_part_5 ?_
    refine lv_goto (tgt := 28) hx hb dX8_part_8 (by decide) ?_
    exact re_l hx hb hr hlocks hW (Option.some.inj hf) dX8_part_28
def f_X8_image_L201 (x168_2 : Int32) : Nat → Int32 → ss_M → Option (Int32 × ss_M)
  | 0, _, _ => none
  | n201 + 1, x201_3, σ201_ => if (208 : Int32) ≤ x201_3 then (some ((1 : Int32), σ201_)) else (if gd x201_3 208 = true then (if gd ((x168_2 + (49 : Int32)) + x201_3) 516 = true then ((f_X8_image_L201 x168_2 n201) (x201_3 + (1 : Int32)) (sAu σ201_ 31 0 (upd (sA σ201_ 31 0) (((x168_2 + (49 : Int32)) + x201_3)).toNatClampNeg (sA σ201_ 23 0 (x201_3).toNatClampNeg)))) else none) else none)
def f_X8_image_j199 (x168_2 : Int32) (σ199_ : ss_M) : Option (Int32 × ss_M) :=
  f_X8_image_L201 x168_2 FU (0 : Int32) σ199_
def f_X8_image_L170 (x168_2 : Int32) (k170_199 : ss_M → Option (Int32 × ss_M)) : Nat → Int32 → ss_M → Option (Int32 × ss_M)
  | 0, _, _ => none
  | n170 + 1, x170_3, σ170_ => if (6 : Int32) ≤ x170_3 then (k170_199 σ170_) else (if gd x170_3 6 = true then (if gd ((x168_2 + (43 : Int32)) + x170_3) 516 = true then ((f_X8_image_L170 x168_2 k170_199 n170) (x170_3 + (1 : Int32)) (sAu σ170_ 31 0 (upd (sA σ170_ 31 0) (((x168_2 + (43 : Int32)) + x170_3)).toNatClampNeg (sA σ170_ 20 0 (x170_3).toNatClampNeg)))) else none) else none)
def f_X8_image_j168 (x168_2 : Int32) (σ168_ : ss_M) : Option (Int32 × ss_M) :=
  f_X8_image_L170 x168_2 (f_X8_image_j199 x168_2) FU (0 : Int32) σ168_
def f_X8_image_L105 (k105_168 : Int32 → ss_M → Option (Int32 × ss_M)) : Nat → Int32 → Int32 → ss_M → Option (Int32 × ss_M)
  | 0, _, _, _ => none
  | n105 + 1, x105_2, x105_3, σ105_ => if (12 : Int32) ≤ x105_3 then (k105_168 x105_2 σ105_) else (if gd x105_3 12 = true then (if gd ((x105_2 + (7 : Int32)) + x105_3) 516 = true then (if gd x105_3 12 = true then (if gd ((x105_2 + (19 : Int32)) + x105_3) 516 = true then (ss_let (sAu (sAu σ105_ 31 0 (upd (sA σ105_ 31 0) (((x105_2 + (7 : Int32)) + x105_3)).toNatClampNeg (sA σ105_ 17 0 (x105_3).toNatClampNeg))) 31 0 (upd (sA (sAu σ105_ 31 0 (upd (sA σ105_ 31 0) (((x105_2 + (7 : Int32)) + x105_3)).toNatClampNeg (sA σ105_ 17 0 (x105_3).toNatClampNeg))) 31 0) (((x105_2 + (19 : Int32)) + x105_3)).toNatClampNeg (sA (sAu σ105_ 31 0 (upd (sA σ105_ 31 0) (((x105_2 + (7 : Int32)) + x105_3)).toNatClampNeg (sA σ105_ 17 0 (x105_3).toNatClampNeg))) 18 0 (x105_3).toNatClampNeg))) (fun σm24 => if gd x105_3 12 = true then (if gd ((x105_2 + (31 : Int32)) + x105_3) 516 = true then ((f_X8_image_L105 k105_168 n105) x105_2 (x105_3 + (1 : Int32)) (sAu σm24 31 0 (upd (sA σm24 31 0) (((x105_2 + (31 : Int32)) + x105_3)).toNatClampNeg (sA σm24 19 0 (x105_3).toNatClampNeg)))) else none) else none)) else none) else none) else none) else none)
def f_X8_image (p0 : Int32) (σ : ss_M) : Option (Int32 × ss_M) :=
  ss_bd (f_X8_in p0 (0 : Int32) (1 : Int32) σ) (fun r1 σ1 => if r1 = (0 : Int32) then (ss_bd (f_X8_bad σ1) (fun r27 σ27 => some (r27, σ27))) else (if gd ((258 : Int32) * p0) 516 = true then (if gd (((258 : Int32) * p0) + (1 : Int32)) 516 = true then (ss_let (sAu (sAu σ1 31 0 (upd (sA σ1 31 0) (((258 : Int32) * p0)).toNatClampNeg (sG σ1 18 0))) 31 0 (upd (sA (sAu σ1 31 0 (upd (sA σ1 31 0) (((258 : Int32) * p0)).toNatClampNeg (sG σ1 18 0))) 31 0) ((((258 : Int32) * p0) + (1 : Int32))).toNatClampNeg (sG (sAu σ1 31 0 (upd (sA σ1 31 0) (((258 : Int32) * p0)).toNatClampNeg (sG σ1 18 0))) 19 0))) (fun σm5 => if gd (((258 : Int32) * p0) + (2 : Int32)) 516 = true then (if gd (((258 : Int32) * p0) + (3 : Int32)) 516 = true then (ss_let (sAu (sAu σm5 31 0 (upd (sA σm5 31 0) ((((258 : Int32) * p0) + (2 : Int32))).toNatClampNeg (sG σm5 17 0))) 31 0 (upd (sA (sAu σm5 31 0 (upd (sA σm5 31 0) ((((258 : Int32) * p0) + (2 : Int32))).toNatClampNeg (sG σm5 17 0))) 31 0) ((((258 : Int32) * p0) + (3 : Int32))).toNatClampNeg (sG (sAu σm5 31 0 (upd (sA σm5 31 0) ((((258 : Int32) * p0) + (2 : Int32))).toNatClampNeg (sG σm5 17 0))) 20 0))) (fun σm8 => if gd (((258 : Int32) * p0) + (4 : Int32)) 516 = true then (if gd (((258 : Int32) * p0) + (5 : Int32)) 516 = true then (ss_let (sAu (sAu σm8 31 0 (upd (sA σm8 31 0) ((((258 : Int32) * p0) + (4 : Int32))).toNatClampNeg (sG σm8 21 0))) 31 0 (upd (sA (sAu σm8 31 0 (upd (sA σm8 31 0) ((((258 : Int32) * p0) + (4 : Int32))).toNatClampNeg (sG σm8 21 0))) 31 0) ((((258 : Int32) * p0) + (5 : Int32))).toNatClampNeg (sG (sAu σm8 31 0 (upd (sA σm8 31 0) ((((258 : Int32) * p0) + (4 : Int32))).toNatClampNeg (sG σm8 21 0))) 22 0))) (fun σm11 => if gd (((258 : Int32) * p0) + (6 : Int32)) 516 = true then (f_X8_image_L105 (f_X8_image_j168) FU ((258 : Int32) * p0) (0 : Int32) (sAu σm11 31 0 (upd (sA σm11 31 0) ((((258 : Int32) * p0) + (6 : Int32))).toNatClampNeg (sG σm11 27 0)))) else none)) else none) else none)) else none) else none)) else none) else none))
def rm_X8_image : Room := { frames := 2, cells := 0, slots := 0, locals := 100 }
theorem hd_X8_image : yX8_image.cls = RX8 ∧ yX8_image.cls ≠ "java/lang/invoke/MethodHandle" ∧ yX8_image.cls ≠ "java/lang/invoke/VarHandle" ∧ (parseMethodDescriptor yX8_image.desc).map (fun d => d.parameters.length) = some 1 := by decide +kernel
set_option maxHeartbeats 4000000 in
set_option maxRecDepth 100000 in
theorem c_X8_image (l : Launch) {D : va_G} {Y : Nat → ClassId} {A : ss_A} (hAD : AD 1 A) {p0 : Int32}  {r : Int32} {σ σ' : ss_M} (hf : f_X8_image p0 σ = some (r, σ')) : Met l yX8_image wsX8_image rm_X8_image (Pc0 1 D Y A σ [.ref (A 0 7 0), .int p0]) (Qi0 1 D Y A r σ') 0 0 (FA 1 A) := by
  rw [f_X8_image] at hf
  refine Met0 (cc := cX8_image) (maxL := 4) (ret := (some .int)) (own := RX8) (by decide +kernel) rfl hAD rfl (Nat.le_of_ble_eq_true rfl) ?_
  intro p e s m args below meth c S hr hlocks hW ls hl
  obtain ⟨hx, hb, hml, hown, hts⟩ := id S
  have iX8 : ∀ q ∈ wsX80, q ∈ wsX8_image := fun q h => List.mem_cons_of_mem _ (List.mem_append_right _ (h))
  have hl : lv_has ls 4 [(0, .ref (A 0 7 0)), (1, .int p0)] := hl
  refine lv_iload_n hx hb dX8_image_0 rfl (lv_at hl 1 rfl) ?_
  refine lv_iconst (v := (0 : Int32)) hx hb dX8_image_1 (by decide) ?_
  refine lv_iconst (v := (1 : Int32)) hx hb dX8_image_2 (by decide) ?_
  obtain ⟨r1, σ1, hf1, hf⟩ := ss_bd_some hf
  refine rt_i S (c_X8_in l hAD  hf1) (va_cwS 3 hts gX8_image_X8_in rfl rfl rfl hd_X8_in ⟨(Nat.le_of_ble_eq_true rfl), (Nat.le_of_ble_eq_true rfl)⟩) hW rfl rfl hl.1 (Nat.le_of_ble_eq_true rfl) ⟨Nat.zero_le _, Nat.zero_le _⟩ dX8_image_3 (fun H locs hW => ?_)
  refine lv_if_ne (tgt := 14) hx hb dX8_image_6 (by decide) (fun q2 => ?_) (fun q2 => ?_)
  · rw [if_neg q2] at hf
    refine lv_sipush (v := (258 : Int32)) hx hb dX8_image_14 (by decide) ?_
    refine lv_iload_n hx hb dX8_image_17 rfl (lv_at hl 1 rfl) ?_
    refine lv_imul hx hb dX8_image_18 ?_
    refine lv_istore_n (lv' := [(2, .int ((258 : Int32) * p0)), (0, .ref (A 0 7 0)), (1, .int p0)]) hx hb dX8_image_19 rfl hl (by decide) rfl (fun ls hl => ?_)
    refine lv_aload_n hx hb dX8_image_20 rfl (lv_at hl 1 rfl) ?_
    refine gf_X8_images hx hb hts hown hW (kS_in (by decide)) iX8 (List.mem_of_getElem? (i := 1) rfl) dX8_image_21 ?_
    refine lv_iload_n hx hb dX8_image_24 rfl (lv_at hl 0 rfl) ?_
    refine lv_aload_n hx hb dX8_image_25 rfl (lv_at hl 1 rfl) ?_
    refine gf_X8_breath hx hb hts hown hW (kS_in (by decide)) iX8 (List.mem_of_getElem? (i := 2) rfl) dX8_image_26 ?_
    obtain ⟨g3, hf⟩ := ss_if hf
    refine rs_i hx hb hW (kS_in (by decide)) g3 dX8_image_29 (fun H locs hW => ?_)
    refine lv_aload_n hx hb dX8_image_30 rfl (lv_at hl 1 rfl) ?_
    refine gf_X8_images hx hb hts hown hW (kS_in (by decide)) iX8 (List.mem_of_getElem? (i := 1) rfl) dX8_image_31 ?_
    refine lv_iload_n hx hb dX8_image_34 rfl (lv_at hl 0 rfl) ?_
    refine lv_iconst (v := (1 : Int32)) hx hb dX8_image_35 (by decide) ?_
    refine lv_iadd hx hb dX8_image_36 ?_
    refine lv_aload_n hx hb dX8_image_37 rfl (lv_at hl 1 rfl) ?_
    refine gf_X8_price hx hb hts hown hW (kS_in (by decide)) iX8 (List.mem_of_getElem? (i := 3) rfl) dX8_image_38 ?_
    obtain ⟨g4, hf⟩ := ss_if hf
    refine rs_i hx hb hW (kS_in (by decide)) g4 dX8_image_41 (fun H locs hW => ?_)
    obtain ⟨σm5, eσm5, hf⟩ := ss_let_some hf
    rw [← eσm5] at hW
    refine lv_aload_n hx hb dX8_image_42 rfl (lv_at hl 1 rfl) ?_
    refine gf_X8_images hx hb hts hown hW (kS_in (by decide)) iX8 (List.mem_of_getElem? (i := 1) rfl) dX8_image_43 ?_
    refine lv_iload_n hx hb dX8_image_46 rfl (lv_at hl 0 rfl) ?_
    refine lv_iconst (v := (2 : Int32)) hx hb dX8_image_47 (by decide) ?_
    refine lv_iadd hx hb dX8_image_48 ?_
    refine lv_aload_n hx hb dX8_image_49 rfl (lv_at hl 1 rfl) ?_
    refine gf_X8_many hx hb hts hown hW (kS_in (by decide)) iX8 (List.mem_of_getElem? (i := 4) rfl) dX8_image_50 ?_
    obtain ⟨g6, hf⟩ := ss_if hf
    refine rs_i hx hb hW (kS_in (by decide)) g6 dX8_image_53 (fun H locs hW => ?_)
    refine lv_aload_n hx hb dX8_image_54 rfl (lv_at hl 1 rfl) ?_
    refine gf_X8_images hx hb hts hown hW (kS_in (by decide)) iX8 (List.mem_of_getElem? (i := 1) rfl) dX8_image_55 ?_
    refine lv_iload_n hx hb dX8_image_58 rfl (lv_at hl 0 rfl) ?_
    refine lv_iconst (v := (3 : Int32)) hx hb dX8_image_59 (by decide) ?_
    refine lv_iadd hx hb dX8_image_60 ?_
    refine lv_aload_n hx hb dX8_image_61 rfl (lv_at hl 1 rfl) ?_
    refine gf_X8_purse hx hb hts hown hW (kS_in (by decide)) iX8 (List.mem_of_getElem? (i := 5) rfl) dX8_image_62 ?_
    obtain ⟨g7, hf⟩ := ss_if hf
    refine rs_i hx hb hW (kS_in (by decide)) g7 dX8_image_65 (fun H locs hW => ?_)
    obtain ⟨σm8, eσm8, hf⟩ := ss_let_some hf
    rw [← eσm8] at hW
    refine lv_aload_n hx hb dX8_image_66 rfl (lv_at hl 1 rfl) ?_
    refine gf_X8_images hx hb hts hown hW (kS_in (by decide)) iX8 (List.mem_of_getElem? (i := 1) rfl) dX8_image_67 ?_
    refine lv_iload_n hx hb dX8_image_70 rfl (lv_at hl 0 rfl) ?_
    refine lv_iconst (v := (4 : Int32)) hx hb dX8_image_71 (by decide) ?_
    refine lv_iadd hx hb dX8_image_72 ?_
    refine lv_aload_n hx hb dX8_image_73 rfl (lv_at hl 1 rfl) ?_
    refine gf_X8_week hx hb hts hown hW (kS_in (by decide)) iX8 (List.mem_of_getElem? (i := 6) rfl) dX8_image_74 ?_
    obtain ⟨g9, hf⟩ := ss_if hf
    refine rs_i hx hb hW (kS_in (by decide)) g9 dX8_image_77 (fun H locs hW => ?_)
    refine lv_aload_n hx hb dX8_image_78 rfl (lv_at hl 1 rfl) ?_
    refine gf_X8_images hx hb hts hown hW (kS_in (by decide)) iX8 (List.mem_of_getElem? (i := 1) rfl) dX8_image_79 ?_
    refine lv_iload_n hx hb dX8_image_82 rfl (lv_at hl 0 rfl) ?_
    refine lv_iconst (v := (5 : Int32)) hx hb dX8_image_83 (by decide) ?_
    refine lv_iadd hx hb dX8_image_84 ?_
    refine lv_aload_n hx hb dX8_image_85 rfl (lv_at hl 1 rfl) ?_
    refine gf_X8_heardMany hx hb hts hown hW (kS_in (by decide)) iX8 (List.mem_of_getElem? (i := 7) rfl) dX8_image_86 ?_
    obtain ⟨g10, hf⟩ := ss_if hf
    refine rs_i hx hb hW (kS_in (by decide)) g10 dX8_image_89 (fun H locs hW => ?_)
    obtain ⟨σm11, eσm11, hf⟩ := ss_let_some hf
    rw [← eσm11] at hW
    refine lv_aload_n hx hb dX8_image_90 rfl (lv_at hl 1 rfl) ?_
    refine gf_X8_images hx hb hts hown hW (kS_in (by decide)) iX8 (List.mem_of_getElem? (i := 1) rfl) dX8_image_91 ?_
    refine lv_iload_n hx hb dX8_image_94 rfl (lv_at hl 0 rfl) ?_
    refine lv_bipush (v := (6 : Int32)) hx hb dX8_image_95 (by decide) ?_
    refine lv_iadd hx hb dX8_image_97 ?_
    refine lv_aload_n hx hb dX8_image_98 rfl (lv_at hl 1 rfl) ?_
    refine gf_X8_undoMany hx hb hts hown hW (kS_in (by decide)) iX8 (List.mem_of_getElem? (i := 8) rfl) dX8_image_99 ?_
    obtain ⟨g12, hf⟩ := ss_if hf
    refine rs_i hx hb hW (kS_in (by decide)) g12 dX8_image_102 (fun H locs hW => ?_)
    refine lv_iconst (v := (0 : Int32)) hx hb dX8_image_103 (by decide) ?_
    refine lv_istore_n (lv' := [(3, .int (0 : Int32)), (2, .int ((258 : Int32) * p0)), (0, .ref (A 0 7 0)), (1, .int p0)]) hx hb dX8_image_104 rfl hl (by decide) rfl (fun ls hl => ?_)
    have J168 : ∀ (x168_2 : Int32) (σ168_ : ss_M) (H : Heap) (locs : List Loc) (ls : Array Slot), sW 1 D Y A σ168_ s s.heap H locs → lv_has ls 4 [(0, .ref (A 0 7 0)), (2, .int x168_2)] → f_X8_image_j168 x168_2 σ168_ = some (r, σ') → W p l e rm_X8_image s m args below meth c H locs 0 0 (MQ below (Qi0 1 D Y A r σ') args s 0 0 (FA 1 A)) (F0 m 168 ls []) := by
      intro x168_2 σ168_ H locs ls hW hl hf
      rw [f_X8_image_j168] at hf
      refine lv_iconst (v := (0 : Int32)) hx hb dX8_image_168 (by decide) ?_
      refine lv_istore_n (lv' := [(3, .int (0 : Int32)), (0, .ref (A 0 7 0)), (2, .int x168_2)]) hx hb dX8_image_169 rfl hl (by decide) rfl (fun ls hl => ?_)
      have J199 : ∀ (σ199_ : ss_M) (H : Heap) (locs : List Loc) (ls : Array Slot), sW 1 D Y A σ199_ s s.heap H locs → lv_has ls 4 [(0, .ref (A 0 7 0)), (2, .int x168_2)] → f_X8_image_j199 x168_2 σ199_ = some (r, σ') → W p l e rm_X8_image s m args below meth c H locs 0 0 (MQ below (Qi0 1 D Y A r σ') args s 0 0 (FA 1 A)) (F0 m 199 ls []) := by
        intro σ199_ H locs ls hW hl hf
        rw [f_X8_image_j199] at hf
        refine lv_iconst (v := (0 : Int32)) hx hb dX8_image_199 (by decide) ?_
        refine lv_istore_n (lv' := [(3, .int (0 : Int32)), (0, .ref (A 0 7 0)), (2, .int x168_2)]) hx hb dX8_image_200 rfl hl (by decide) rfl (fun ls hl => ?_)
        have L201 : ∀ (n201 : Nat), ∀ (x201_3 : Int32) (σ201_ : ss_M) (H : Heap) (locs : List Loc) (ls : Array Slot), sW 1 D Y A σ201_ s s.heap H locs → lv_has ls 4 [(0, .ref (A 0 7 0)), (2, .int x168_2), (3, .int x201_3)] → f_X8_image_L201 x168_2 n201 x201_3 σ201_ = some (r, σ') → W p l e rm_X8_image s m args below meth c H locs 0 0 (MQ below (Qi0 1 D Y A r σ') args s 0 0 (FA 1 A)) (F0 m 201 ls []) := by
          intro n201
          induction n201 with
          | zero =>
            intro x201_3 σ201_ H locs ls hW hl hf
            rw [f_X8_image_L201] at hf
            cases hf
          | succ n201 ih201 =>
            intro x201_3 σ201_ H locs ls hW hl hf
            rw [f_X8_image_L201] at hf
            refine lv_iload_n hx hb dX8_image_201 rfl (lv_at hl 2 rfl) ?_
            refine lv_sipush (v := (208 : Int32)) hx hb dX8_image_202 (by decide) ?_
            refine lv_icmp_ge (tgt := 231) hx hb dX8_image_205 (by decide) (fun q13 => ?_) (fun q13 => ?_)
            · rw [if_pos q13] at hf
              refine lv_iconst (v := (1 : Int32)) hx hb dX8_image_231 (by decide) ?_
              exact re_i hx hb hr hlocks hW (Option.some.inj hf) dX8_image_232
            · rw [if_neg q13] at hf
              refine lv_aload_n hx hb dX8_image_208 rfl (lv_at hl 0 rfl) ?_
              refine gf_X8_images hx hb hts hown hW (kS_in (by decide)) iX8 (List.mem_of_getElem? (i := 1) rfl) dX8_image_209 ?_
              refine lv_iload_n hx hb dX8_image_212 rfl (lv_at hl 1 rfl) ?_
              refine lv_bipush (v := (49 : Int32)) hx hb dX8_image_213 (by decide) ?_
              refine lv_iadd hx hb dX8_image_215 ?_
              refine lv_iload_n hx hb dX8_image_216 rfl (lv_at hl 2 rfl) ?_
              refine lv_iadd hx hb dX8_image_217 ?_
              refine lv_aload_n hx hb dX8_image_218 rfl (lv_at hl 0 rfl) ?_
              refine gf_X8_ahead hx hb hts hown hW (kS_in (by decide)) iX8 (List.mem_of_getElem? (i := 13) rfl) dX8_image_219 ?_
              refine lv_iload_n hx hb dX8_image_222 rfl (lv_at hl 2 rfl) ?_
              obtain ⟨g14, hf⟩ := ss_if hf
              refine ra_i hx hb hW (kS_in (by decide)) g14 dX8_image_223 ?_
              obtain ⟨g15, hf⟩ := ss_if hf
              refine rs_i hx hb hW (kS_in (by decide)) g15 dX8_image_224 (fun H locs hW => ?_)
              refine lv_iinc (v := (x201_3 + (1 : Int32))) (lv' := [(3, .int (x201_3 + (1 : Int32))), (0, .ref (A 0 7 0)), (2, .int x168_2)]) hx hb dX8_image_225 hl (k := 2) rfl rfl (by decide) rfl (fun ls hl => ?_)
              refine lv_goto (tgt := 201) hx hb dX8_image_228 (by decide) ?_
              exact ih201 (x201_3 + (1 : Int32)) (sAu σ201_ 31 0 (upd (sA σ201_ 31 0) (((x168_2 + (49 : Int32)) + x201_3)).toNatClampNeg (sA σ201_ 23 0 (x201_3).toNatClampNeg))) _ _ _ hW (lv_sub hl [1, 2, 0] rfl) hf
        exact L201 FU (0 : Int32) σ199_ _ _ _ hW (lv_sub hl [1, 2, 0] rfl) hf
      have L170 : ∀ (n170 : Nat), ∀ (x170_3 : Int32) (σ170_ : ss_M) (H : Heap) (locs : List Loc) (ls : Array Slot), sW 1 D Y A σ170_ s s.heap H locs → lv_has ls 4 [(0, .ref (A 0 7 0)), (2, .int x168_2), (3, .int x170_3)] → f_X8_image_L170 x168_2 (f_X8_image_j199 x168_2) n170 x170_3 σ170_ = some (r, σ') → W p l e rm_X8_image s m args below meth c H locs 0 0 (MQ below (Qi0 1 D Y A r σ') args s 0 0 (FA 1 A)) (F0 m 170 ls []) := by
        intro n170
        induction n170 with
        | zero =>
          intro x170_3 σ170_ H locs ls hW hl hf
          rw [f_X8_image_L170] at hf
          cases hf
        | succ n170 ih170 =>
          intro x170_3 σ170_ H locs ls hW hl hf
          rw [f_X8_image_L170] at hf
          refine lv_iload_n hx hb dX8_image_170 rfl (lv_at hl 2 rfl) ?_
          refine lv_bipush (v := (6 : Int32)) hx hb dX8_image_171 (by decide) ?_
          refine lv_icmp_ge (tgt := 199) hx hb dX8_image_173 (by decide) (fun q16 => ?_) (fun q16 => ?_)
          · rw [if_pos q16] at hf
            exact J199 σ170_ _ _ _ hW (lv_sub hl [0, 1] rfl) hf
          · rw [if_neg q16] at hf
            refine lv_aload_n hx hb dX8_image_176 rfl (lv_at hl 0 rfl) ?_
            refine gf_X8_images hx hb hts hown hW (kS_in (by decide)) iX8 (List.mem_of_getElem? (i := 1) rfl) dX8_image_177 ?_
            refine lv_iload_n hx hb dX8_image_180 rfl (lv_at hl 1 rfl) ?_
            refine lv_bipush (v := (43 : Int32)) hx hb dX8_image_181 (by decide) ?_
            refine lv_iadd hx hb dX8_image_183 ?_
            refine lv_iload_n hx hb dX8_image_184 rfl (lv_at hl 2 rfl) ?_
            refine lv_iadd hx hb dX8_image_185 ?_
            refine lv_aload_n hx hb dX8_image_186 rfl (lv_at hl 0 rfl) ?_
            refine gf_X8_heards hx hb hts hown hW (kS_in (by decide)) iX8 (List.mem_of_getElem? (i := 12) rfl) dX8_image_187 ?_
            refine lv_iload_n hx hb dX8_image_190 rfl (lv_at hl 2 rfl) ?_
            obtain ⟨g17, hf⟩ := ss_if hf
            refine ra_i hx hb hW (kS_in (by decide)) g17 dX8_image_191 ?_
            obtain ⟨g18, hf⟩ := ss_if hf
            refine rs_i hx hb hW (kS_in (by decide)) g18 dX8_image_192 (fun H locs hW => ?_)
            refine lv_iinc (v := (x170_3 + (1 : Int32))) (lv' := [(3, .int (x170_3 + (1 : Int32))), (0, .ref (A 0 7 0)), (2, .int x168_2)]) hx hb dX8_image_193 hl (k := 2) rfl rfl (by decide) rfl (fun ls hl => ?_)
            refine lv_goto (tgt := 170) hx hb dX8_image_196 (by decide) ?_
            exact ih170 (x170_3 + (1 : Int32)) (sAu σ170_ 31 0 (upd (sA σ170_ 31 0) (((x168_2 + (43 : Int32)) + x170_3)).toNatClampNeg (sA σ170_ 20 0 (x170_3).toNatClampNeg))) _ _ _ hW (lv_sub hl [1, 2, 0] rfl) hf
      exact L170 FU (0 : Int32) σ168_ _ _ _ hW (lv_sub hl [1, 2, 0] rfl) hf
    have L105 : ∀ (n105 : Nat), ∀ (x105_2 : Int32) (x105_3 : Int32) (σ105_ : ss_M) (H : Heap) (locs : List Loc) (ls : Array Slot), sW 1 D Y A σ105_ s s.heap H locs → lv_has ls 4 [(0, .ref (A 0 7 0)), (2, .int x105_2), (3, .int x105_3)] → f_X8_image_L105 (f_X8_image_j168) n105 x105_2 x105_3 σ105_ = some (r, σ') → W p l e rm_X8_image s m args below meth c H locs 0 0 (MQ below (Qi0 1 D Y A r σ') args s 0 0 (FA 1 A)) (F0 m 105 ls []) := by
      intro n105
      induction n105 with
      | zero =>
        intro x105_2 x105_3 σ105_ H locs ls hW hl hf
        rw [f_X8_image_L105] at hf
        cases hf
      | succ n105 ih105 =>
        intro x105_2 x105_3 σ105_ H locs ls hW hl hf
        rw [f_X8_image_L105] at hf
        refine lv_iload_n hx hb dX8_image_105 rfl (lv_at hl 2 rfl) ?_
        refine lv_bipush (v := (12 : Int32)) hx hb dX8_image_106 (by decide) ?_
        refine lv_icmp_ge (tgt := 168) hx hb dX8_image_108 (by decide) (fun q19 => ?_) (fun q19 => ?_)
        · rw [if_pos q19] at hf
          exact J168 x105_2 σ105_ _ _ _ hW (lv_sub hl [0, 1] rfl) hf
        · rw [if_neg q19] at hf
          refine lv_aload_n hx hb dX8_image_111 rfl (lv_at hl 0 rfl) ?_
          refine gf_X8_images hx hb hts hown hW (kS_in (by decide)) iX8 (List.mem_of_getElem? (i := 1) rfl) dX8_image_112 ?_
          refine lv_iload_n hx hb dX8_image_115 rfl (lv_at hl 1 rfl) ?_
          refine lv_bipush (v := (7 : Int32)) hx hb dX8_image_116 (by decide) ?_
          refine lv_iadd hx hb dX8_image_118 ?_
          refine lv_iload_n hx hb dX8_image_119 rfl (lv_at hl 2 rfl) ?_
          refine lv_iadd hx hb dX8_image_120 ?_
          refine lv_aload_n hx hb dX8_image_121 rfl (lv_at hl 0 rfl) ?_
          refine gf_X8_lengths hx hb hts hown hW (kS_in (by decide)) iX8 (List.mem_of_getElem? (i := 9) rfl) dX8_image_122 ?_
          refine lv_iload_n hx hb dX8_image_125 rfl (lv_at hl 2 rfl) ?_
          obtain ⟨g20, hf⟩ := ss_if hf
          refine ra_i hx hb hW (kS_in (by decide)) g20 dX8_image_126 ?_
          obtain ⟨g21, hf⟩ := ss_if hf
          refine rs_i hx hb hW (kS_in (by decide)) g21 dX8_image_127 (fun H locs hW => ?_)
          refine lv_aload_n hx hb dX8_image_128 rfl (lv_at hl 0 rfl) ?_
          refine gf_X8_images hx hb hts hown hW (kS_in (by decide)) iX8 (List.mem_of_getElem? (i := 1) rfl) dX8_image_129 ?_
          refine lv_iload_n hx hb dX8_image_132 rfl (lv_at hl 1 rfl) ?_
          refine lv_bipush (v := (19 : Int32)) hx hb dX8_image_133 (by decide) ?_
          refine lv_iadd hx hb dX8_image_135 ?_
          refine lv_iload_n hx hb dX8_image_136 rfl (lv_at hl 2 rfl) ?_
          refine lv_iadd hx hb dX8_image_137 ?_
          refine lv_aload_n hx hb dX8_image_138 rfl (lv_at hl 0 rfl) ?_
          refine gf_X8_kinds hx hb hts hown hW (kS_in (by decide)) iX8 (List.mem_of_getElem? (i := 10) rfl) dX8_image_139 ?_
          refine lv_iload_n hx hb dX8_image_142 rfl (lv_at hl 2 rfl) ?_
          obtain ⟨g22, hf⟩ := ss_if hf
          refine ra_i hx hb hW (kS_in (by decide)) g22 dX8_image_143 ?_
          obtain ⟨g23, hf⟩ := ss_if hf
          refine rs_i hx hb hW (kS_in (by decide)) g23 dX8_image_144 (fun H locs hW => ?_)
          obtain ⟨σm24, eσm24, hf⟩ := ss_let_some hf
          rw [← eσm24] at hW
          refine lv_aload_n hx hb dX8_image_145 rfl (lv_at hl 0 rfl) ?_
          refine gf_X8_images hx hb hts hown hW (kS_in (by decide)) iX8 (List.mem_of_getElem? (i := 1) rfl) dX8_image_146 ?_
          refine lv_iload_n hx hb dX8_image_149 rfl (lv_at hl 1 rfl) ?_
          refine lv_bipush (v := (31 : Int32)) hx hb dX8_image_150 (by decide) ?_
          refine lv_iadd hx hb dX8_image_152 ?_
          refine lv_iload_n hx hb dX8_image_153 rfl (lv_at hl 2 rfl) ?_
          refine lv_iadd hx hb dX8_image_154 ?_
          refine lv_aload_n hx hb dX8_image_155 rfl (lv_at hl 0 rfl) ?_
          refine gf_X8_reads hx hb hts hown hW (kS_in (by decide)) iX8 (List.mem_of_getElem? (i := 11) rfl) dX8_image_156 ?_
          refine lv_iload_n hx hb dX8_image_159 rfl (lv_at hl 2 rfl) ?_
          obtain ⟨g25, hf⟩ := ss_if hf
          refine ra_i hx hb hW (kS_in (by decide)) g25 dX8_image_160 ?_
          obtain ⟨g26, hf⟩ := ss_if hf
          refine rs_i hx hb hW (kS_in (by decide)) g26 dX8_image_161 (fun H locs hW => ?_)
          refine lv_iinc (v := (x105_3 + (1 : Int32))) (lv' := [(3, .int (x105_3 + (1 : Int32))), (0, .ref (A 0 7 0)), (2, .int x105_2)]) hx hb dX8_image_162 hl (k := 2) rfl rfl (by decide) rfl (fun ls hl => ?_)
          refine lv_goto (tgt := 105) hx hb dX8_image_165 (by decide) ?_
          exact ih105 x105_2 (x105_3 + (1 : Int32)) (sAu σm24 31 0 (upd (sA σm24 31 0) (((x105_2 + (31 : Int32)) + x105_3)).toNatClampNeg (sA σm24 19 0 (x105_3).toNatClampNeg))) _ _ _ hW (lv_sub hl [1, 2, 0] rfl) hf
    exact L105 FU ((258 : Int32) * p0) (0 : Int32) (sAu σm11 31 0 (upd (sA σm11 31 0) ((((258 : Int32) * p0) + (6 : Int32))).toNatClampNeg (sG σm11 27 0))) _ _ _ hW (lv_sub hl [2, 1, 0] rfl) hf
  · rw [if_pos q2] at hf
    refine lv_aload_n hx hb dX8_image_9 rfl (lv_at hl 0 rfl) ?_
    obtain ⟨r27, σ27, hf27, hf⟩ := ss_bd_some hf
    refine rv_i S (c_X8_bad l hAD  hf27) (cwV 0 hts gX8_image_X8_bad rfl rfl rfl hd_X8_bad ⟨(Nat.le_of_ble_eq_true rfl), (Nat.le_of_ble_eq_true rfl)⟩) hW (kS_in (by decide)) rfl rfl rfl hl.1 (Nat.le_of_ble_eq_true rfl) ⟨Nat.zero_le _, Nat.zero_le _⟩ dX8_image_10 (fun H locs hW => ?_)
    exact re_i hx hb hr hlocks hW (Option.some.inj hf) dX8_image_13
def f_X8_from_L215 (x182_2 : Int32) : Nat → Int32 → ss_M → Option (Int32 × ss_M)
  | 0, _, _ => none
  | n215 + 1, x215_3, σ215_ => if (208 : Int32) ≤ x215_3 then (some ((1 : Int32), σ215_)) else (if gd ((x182_2 + (49 : Int32)) + x215_3) 516 = true then (if gd x215_3 208 = true then ((f_X8_from_L215 x182_2 n215) (x215_3 + (1 : Int32)) (sAu σ215_ 23 0 (upd (sA σ215_ 23 0) (x215_3).toNatClampNeg (sA σ215_ 31 0 (((x182_2 + (49 : Int32)) + x215_3)).toNatClampNeg)))) else none) else none)
def f_X8_from_j213 (x182_2 : Int32) (σ213_ : ss_M) : Option (Int32 × ss_M) :=
  f_X8_from_L215 x182_2 FU (0 : Int32) σ213_
def f_X8_from_L184 (x182_2 : Int32) (k184_213 : ss_M → Option (Int32 × ss_M)) : Nat → Int32 → ss_M → Option (Int32 × ss_M)
  | 0, _, _ => none
  | n184 + 1, x184_3, σ184_ => if (6 : Int32) ≤ x184_3 then (k184_213 σ184_) else (if gd ((x182_2 + (43 : Int32)) + x184_3) 516 = true then (if gd x184_3 6 = true then ((f_X8_from_L184 x182_2 k184_213 n184) (x184_3 + (1 : Int32)) (sAu σ184_ 20 0 (upd (sA σ184_ 20 0) (x184_3).toNatClampNeg (sA σ184_ 31 0 (((x182_2 + (43 : Int32)) + x184_3)).toNatClampNeg)))) else none) else none)
def f_X8_from_j182 (x182_2 : Int32) (σ182_ : ss_M) : Option (Int32 × ss_M) :=
  f_X8_from_L184 x182_2 (f_X8_from_j213 x182_2) FU (0 : Int32) σ182_
def f_X8_from_L119 (k119_182 : Int32 → ss_M → Option (Int32 × ss_M)) : Nat → Int32 → Int32 → ss_M → Option (Int32 × ss_M)
  | 0, _, _, _ => none
  | n119 + 1, x119_2, x119_3, σ119_ => if (12 : Int32) ≤ x119_3 then (k119_182 x119_2 σ119_) else (if gd ((x119_2 + (7 : Int32)) + x119_3) 516 = true then (if gd x119_3 12 = true then (if gd ((x119_2 + (19 : Int32)) + x119_3) 516 = true then (if gd x119_3 12 = true then (ss_let (sAu (sAu σ119_ 17 0 (upd (sA σ119_ 17 0) (x119_3).toNatClampNeg (sA σ119_ 31 0 (((x119_2 + (7 : Int32)) + x119_3)).toNatClampNeg))) 18 0 (upd (sA (sAu σ119_ 17 0 (upd (sA σ119_ 17 0) (x119_3).toNatClampNeg (sA σ119_ 31 0 (((x119_2 + (7 : Int32)) + x119_3)).toNatClampNeg))) 18 0) (x119_3).toNatClampNeg (sA (sAu σ119_ 17 0 (upd (sA σ119_ 17 0) (x119_3).toNatClampNeg (sA σ119_ 31 0 (((x119_2 + (7 : Int32)) + x119_3)).toNatClampNeg))) 31 0 (((x119_2 + (19 : Int32)) + x119_3)).toNatClampNeg))) (fun σm26 => if gd ((x119_2 + (31 : Int32)) + x119_3) 516 = true then (if gd x119_3 12 = true then ((f_X8_from_L119 k119_182 n119) x119_2 (x119_3 + (1 : Int32)) (sAu σm26 19 0 (upd (sA σm26 19 0) (x119_3).toNatClampNeg (sA σm26 31 0 (((x119_2 + (31 : Int32)) + x119_3)).toNatClampNeg)))) else none) else none)) else none) else none) else none) else none)
def f_X8_from (p0 : Int32) (σ : ss_M) : Option (Int32 × ss_M) :=
  ss_bd (f_X8_in p0 (0 : Int32) (1 : Int32) σ) (fun r1 σ1 => if r1 = (0 : Int32) then (ss_bd (f_X8_bad σ1) (fun r30 σ30 => some (r30, σ30))) else (if gd ((258 : Int32) * p0) 516 = true then (if (sA σ1 31 0 (((258 : Int32) * p0)).toNatClampNeg) = (0 : Int32) then (ss_bd (f_X8_no σ1) (fun r29 σ29 => some (r29, σ29))) else (if gd ((258 : Int32) * p0) 516 = true then (if gd (((258 : Int32) * p0) + (1 : Int32)) 516 = true then (ss_let (sGu (sGu σ1 18 0 (sA σ1 31 0 (((258 : Int32) * p0)).toNatClampNeg)) 19 0 (sA (sGu σ1 18 0 (sA σ1 31 0 (((258 : Int32) * p0)).toNatClampNeg)) 31 0 ((((258 : Int32) * p0) + (1 : Int32))).toNatClampNeg)) (fun σm7 => if gd (((258 : Int32) * p0) + (2 : Int32)) 516 = true then (if gd (((258 : Int32) * p0) + (3 : Int32)) 516 = true then (ss_let (sGu (sGu σm7 17 0 (sA σm7 31 0 ((((258 : Int32) * p0) + (2 : Int32))).toNatClampNeg)) 20 0 (sA (sGu σm7 17 0 (sA σm7 31 0 ((((258 : Int32) * p0) + (2 : Int32))).toNatClampNeg)) 31 0 ((((258 : Int32) * p0) + (3 : Int32))).toNatClampNeg)) (fun σm10 => if gd (((258 : Int32) * p0) + (4 : Int32)) 516 = true then (if gd (((258 : Int32) * p0) + (5 : Int32)) 516 = true then (ss_let (sGu (sGu σm10 21 0 (sA σm10 31 0 ((((258 : Int32) * p0) + (4 : Int32))).toNatClampNeg)) 22 0 (sA (sGu σm10 21 0 (sA σm10 31 0 ((((258 : Int32) * p0) + (4 : Int32))).toNatClampNeg)) 31 0 ((((258 : Int32) * p0) + (5 : Int32))).toNatClampNeg)) (fun σm13 => if gd (((258 : Int32) * p0) + (6 : Int32)) 516 = true then (f_X8_from_L119 (f_X8_from_j182) FU ((258 : Int32) * p0) (0 : Int32) (sGu σm13 27 0 (sA σm13 31 0 ((((258 : Int32) * p0) + (6 : Int32))).toNatClampNeg))) else none)) else none) else none)) else none) else none)) else none) else none)) else none))
def rm_X8_from : Room := { frames := 2, cells := 0, slots := 0, locals := 100 }
theorem hd_X8_from : yX8_from.cls = RX8 ∧ yX8_from.cls ≠ "java/lang/invoke/MethodHandle" ∧ yX8_from.cls ≠ "java/lang/invoke/VarHandle" ∧ (parseMethodDescriptor yX8_from.desc).map (fun d => d.parameters.length) = some 1 := by decide +kernel
set_option maxHeartbeats 4000000 in
set_option maxRecDepth 100000 in
theorem c_X8_from (l : Launch) {D : va_G} {Y : Nat → ClassId} {A : ss_A} (hAD : AD 1 A) {p0 : Int32}  {r : Int32} {σ σ' : ss_M} (hf : f_X8_from p0 σ = some (r, σ')) : Met l yX8_from wsX8_from rm_X8_from (Pc0 1 D Y A σ [.ref (A 0 7 0), .int p0]) (Qi0 1 D Y A r σ') 0 0 (FA 1 A) := by
  rw [f_X8_from] at hf
  refine Met0 (cc := cX8_from) (maxL := 4) (ret := (some .int)) (own := RX8) (by decide +kernel) rfl hAD rfl (Nat.le_of_ble_eq_true rfl) ?_
  intro p e s m args below meth c S hr hlocks hW ls hl
  obtain ⟨hx, hb, hml, hown, hts⟩ := id S
  have iX8 : ∀ q ∈ wsX80, q ∈ wsX8_from := fun q h => List.mem_cons_of_mem _ (List.mem_append_right _ (h))
  have hl : lv_has ls 4 [(0, .ref (A 0 7 0)), (1, .int p0)] := hl
  refine lv_iload_n hx hb dX8_from_0 rfl (lv_at hl 1 rfl) ?_
  refine lv_iconst (v := (0 : Int32)) hx hb dX8_from_1 (by decide) ?_
  refine lv_iconst (v := (1 : Int32)) hx hb dX8_from_2 (by decide) ?_
  obtain ⟨r1, σ1, hf1, hf⟩ := ss_bd_some hf
  refine rt_i S (c_X8_in l hAD  hf1) (va_cwS 3 hts gX8_from_X8_in rfl rfl rfl hd_X8_in ⟨(Nat.le_of_ble_eq_true rfl), (Nat.le_of_ble_eq_true rfl)⟩) hW rfl rfl hl.1 (Nat.le_of_ble_eq_true rfl) ⟨Nat.zero_le _, Nat.zero_le _⟩ dX8_from_3 (fun H locs hW => ?_)
  refine lv_if_ne (tgt := 14) hx hb dX8_from_6 (by decide) (fun q2 => ?_) (fun q2 => ?_)
  · rw [if_neg q2] at hf
    refine lv_sipush (v := (258 : Int32)) hx hb dX8_from_14 (by decide) ?_
    refine lv_iload_n hx hb dX8_from_17 rfl (lv_at hl 1 rfl) ?_
    refine lv_imul hx hb dX8_from_18 ?_
    refine lv_istore_n (lv' := [(2, .int ((258 : Int32) * p0)), (0, .ref (A 0 7 0)), (1, .int p0)]) hx hb dX8_from_19 rfl hl (by decide) rfl (fun ls hl => ?_)
    refine lv_aload_n hx hb dX8_from_20 rfl (lv_at hl 1 rfl) ?_
    refine gf_X8_images hx hb hts hown hW (kS_in (by decide)) iX8 (List.mem_of_getElem? (i := 1) rfl) dX8_from_21 ?_
    refine lv_iload_n hx hb dX8_from_24 rfl (lv_at hl 0 rfl) ?_
    obtain ⟨g3, hf⟩ := ss_if hf
    refine ra_i hx hb hW (kS_in (by decide)) g3 dX8_from_25 ?_
    refine lv_if_ne (tgt := 34) hx hb dX8_from_26 (by decide) (fun q4 => ?_) (fun q4 => ?_)
    · rw [if_neg q4] at hf
      refine lv_aload_n hx hb dX8_from_34 rfl (lv_at hl 1 rfl) ?_
      refine lv_aload_n hx hb dX8_from_35 rfl (lv_at hl 1 rfl) ?_
      refine gf_X8_images hx hb hts hown hW (kS_in (by decide)) iX8 (List.mem_of_getElem? (i := 1) rfl) dX8_from_36 ?_
      refine lv_iload_n hx hb dX8_from_39 rfl (lv_at hl 0 rfl) ?_
      obtain ⟨g5, hf⟩ := ss_if hf
      refine ra_i hx hb hW (kS_in (by decide)) g5 dX8_from_40 ?_
      refine pf_X8_breath hx hb hts hown hW (kS_in (by decide)) iX8 (List.mem_of_getElem? (i := 2) rfl) dX8_from_41 (fun H locs hW => ?_)
      refine lv_aload_n hx hb dX8_from_44 rfl (lv_at hl 1 rfl) ?_
      refine lv_aload_n hx hb dX8_from_45 rfl (lv_at hl 1 rfl) ?_
      refine gf_X8_images hx hb hts hown hW (kS_in (by decide)) iX8 (List.mem_of_getElem? (i := 1) rfl) dX8_from_46 ?_
      refine lv_iload_n hx hb dX8_from_49 rfl (lv_at hl 0 rfl) ?_
      refine lv_iconst (v := (1 : Int32)) hx hb dX8_from_50 (by decide) ?_
      refine lv_iadd hx hb dX8_from_51 ?_
      obtain ⟨g6, hf⟩ := ss_if hf
      refine ra_i hx hb hW (kS_in (by decide)) g6 dX8_from_52 ?_
      refine pf_X8_price hx hb hts hown hW (kS_in (by decide)) iX8 (List.mem_of_getElem? (i := 3) rfl) dX8_from_53 (fun H locs hW => ?_)
      obtain ⟨σm7, eσm7, hf⟩ := ss_let_some hf
      rw [← eσm7] at hW
      refine lv_aload_n hx hb dX8_from_56 rfl (lv_at hl 1 rfl) ?_
      refine lv_aload_n hx hb dX8_from_57 rfl (lv_at hl 1 rfl) ?_
      refine gf_X8_images hx hb hts hown hW (kS_in (by decide)) iX8 (List.mem_of_getElem? (i := 1) rfl) dX8_from_58 ?_
      refine lv_iload_n hx hb dX8_from_61 rfl (lv_at hl 0 rfl) ?_
      refine lv_iconst (v := (2 : Int32)) hx hb dX8_from_62 (by decide) ?_
      refine lv_iadd hx hb dX8_from_63 ?_
      obtain ⟨g8, hf⟩ := ss_if hf
      refine ra_i hx hb hW (kS_in (by decide)) g8 dX8_from_64 ?_
      refine pf_X8_many hx hb hts hown hW (kS_in (by decide)) iX8 (List.mem_of_getElem? (i := 4) rfl) dX8_from_65 (fun H locs hW => ?_)
      refine lv_aload_n hx hb dX8_from_68 rfl (lv_at hl 1 rfl) ?_
      refine lv_aload_n hx hb dX8_from_69 rfl (lv_at hl 1 rfl) ?_
      refine gf_X8_images hx hb hts hown hW (kS_in (by decide)) iX8 (List.mem_of_getElem? (i := 1) rfl) dX8_from_70 ?_
      refine lv_iload_n hx hb dX8_from_73 rfl (lv_at hl 0 rfl) ?_
      refine lv_iconst (v := (3 : Int32)) hx hb dX8_from_74 (by decide) ?_
      refine lv_iadd hx hb dX8_from_75 ?_
      obtain ⟨g9, hf⟩ := ss_if hf
      refine ra_i hx hb hW (kS_in (by decide)) g9 dX8_from_76 ?_
      refine pf_X8_purse hx hb hts hown hW (kS_in (by decide)) iX8 (List.mem_of_getElem? (i := 5) rfl) dX8_from_77 (fun H locs hW => ?_)
      obtain ⟨σm10, eσm10, hf⟩ := ss_let_some hf
      rw [← eσm10] at hW
      refine lv_aload_n hx hb dX8_from_80 rfl (lv_at hl 1 rfl) ?_
      refine lv_aload_n hx hb dX8_from_81 rfl (lv_at hl 1 rfl) ?_
      refine gf_X8_images hx hb hts hown hW (kS_in (by decide)) iX8 (List.mem_of_getElem? (i := 1) rfl) dX8_from_82 ?_
      refine lv_iload_n hx hb dX8_from_85 rfl (lv_at hl 0 rfl) ?_
      refine lv_iconst (v := (4 : Int32)) hx hb dX8_from_86 (by decide) ?_
      refine lv_iadd hx hb dX8_from_87 ?_
      obtain ⟨g11, hf⟩ := ss_if hf
      refine ra_i hx hb hW (kS_in (by decide)) g11 dX8_from_88 ?_
      refine pf_X8_week hx hb hts hown hW (kS_in (by decide)) iX8 (List.mem_of_getElem? (i := 6) rfl) dX8_from_89 (fun H locs hW => ?_)
      refine lv_aload_n hx hb dX8_from_92 rfl (lv_at hl 1 rfl) ?_
      refine lv_aload_n hx hb dX8_from_93 rfl (lv_at hl 1 rfl) ?_
      refine gf_X8_images hx hb hts hown hW (kS_in (by decide)) iX8 (List.mem_of_getElem? (i := 1) rfl) dX8_from_94 ?_
      refine lv_iload_n hx hb dX8_from_97 rfl (lv_at hl 0 rfl) ?_
      refine lv_iconst (v := (5 : Int32)) hx hb dX8_from_98 (by decide) ?_
      refine lv_iadd hx hb dX8_from_99 ?_
      obtain ⟨g12, hf⟩ := ss_if hf
      refine ra_i hx hb hW (kS_in (by decide)) g12 dX8_from_100 ?_
      refine pf_X8_heardMany hx hb hts hown hW (kS_in (by decide)) iX8 (List.mem_of_getElem? (i := 7) rfl) dX8_from_101 (fun H locs hW => ?_)
      obtain ⟨σm13, eσm13, hf⟩ := ss_let_some hf
      rw [← eσm13] at hW
      refine lv_aload_n hx hb dX8_from_104 rfl (lv_at hl 1 rfl) ?_
      refine lv_aload_n hx hb dX8_from_105 rfl (lv_at hl 1 rfl) ?_
      refine gf_X8_images hx hb hts hown hW (kS_in (by decide)) iX8 (List.mem_of_getElem? (i := 1) rfl) dX8_from_106 ?_
      refine lv_iload_n hx hb dX8_from_109 rfl (lv_at hl 0 rfl) ?_
      refine lv_bipush (v := (6 : Int32)) hx hb dX8_from_110 (by decide) ?_
      refine lv_iadd hx hb dX8_from_112 ?_
      obtain ⟨g14, hf⟩ := ss_if hf
      refine ra_i hx hb hW (kS_in (by decide)) g14 dX8_from_113 ?_
      refine pf_X8_undoMany hx hb hts hown hW (kS_in (by decide)) iX8 (List.mem_of_getElem? (i := 8) rfl) dX8_from_114 (fun H locs hW => ?_)
      refine lv_iconst (v := (0 : Int32)) hx hb dX8_from_117 (by decide) ?_
      refine lv_istore_n (lv' := [(3, .int (0 : Int32)), (2, .int ((258 : Int32) * p0)), (0, .ref (A 0 7 0)), (1, .int p0)]) hx hb dX8_from_118 rfl hl (by decide) rfl (fun ls hl => ?_)
      have J182 : ∀ (x182_2 : Int32) (σ182_ : ss_M) (H : Heap) (locs : List Loc) (ls : Array Slot), sW 1 D Y A σ182_ s s.heap H locs → lv_has ls 4 [(0, .ref (A 0 7 0)), (2, .int x182_2)] → f_X8_from_j182 x182_2 σ182_ = some (r, σ') → W p l e rm_X8_from s m args below meth c H locs 0 0 (MQ below (Qi0 1 D Y A r σ') args s 0 0 (FA 1 A)) (F0 m 182 ls []) := by
        intro x182_2 σ182_ H locs ls hW hl hf
        rw [f_X8_from_j182] at hf
        refine lv_iconst (v := (0 : Int32)) hx hb dX8_from_182 (by decide) ?_
        refine lv_istore_n (lv' := [(3, .int (0 : Int32)), (0, .ref (A 0 7 0)), (2, .int x182_2)]) hx hb dX8_from_183 rfl hl (by decide) rfl (fun ls hl => ?_)
        have J213 : ∀ (σ213_ : ss_M) (H : Heap) (locs : List Loc) (ls : Array Slot), sW 1 D Y A σ213_ s s.heap H locs → lv_has ls 4 [(0, .ref (A 0 7 0)), (2, .int x182_2)] → f_X8_from_j213 x182_2 σ213_ = some (r, σ') → W p l e rm_X8_from s m args below meth c H locs 0 0 (MQ below (Qi0 1 D Y A r σ') args s 0 0 (FA 1 A)) (F0 m 213 ls []) := by
          intro σ213_ H locs ls hW hl hf
          rw [f_X8_from_j213] at hf
          refine lv_iconst (v := (0 : Int32)) hx hb dX8_from_213 (by decide) ?_
          refine lv_istore_n (lv' := [(3, .int (0 : Int32)), (0, .ref (A 0 7 0)), (2, .int x182_2)]) hx hb dX8_from_214 rfl hl (by decide) rfl (fun ls hl => ?_)
          have L215 : ∀ (n215 : Nat), ∀ (x215_3 : Int32) (σ215_ : ss_M) (H : Heap) (locs : List Loc) (ls : Array Slot), sW 1 D Y A σ215_ s s.heap H locs → lv_has ls 4 [(0, .ref (A 0 7 0)), (2, .int x182_2), (3, .int x215_3)] → f_X8_from_L215 x182_2 n215 x215_3 σ215_ = some (r, σ') → W p l e rm_X8_from s m args below meth c H locs 0 0 (MQ below (Qi0 1 D Y A r σ') args s 0 0 (FA 1 A)) (F0 m 215 ls []) := by
            intro n215
            induction n215 with
            | zero =>
              intro x215_3 σ215_ H locs ls hW hl hf
              rw [f_X8_from_L215] at hf
              cases hf
            | succ n215 ih215 =>
              intro x215_3 σ215_ H locs ls hW hl hf
              rw [f_X8_from_L215] at hf
              refine lv_iload_n hx hb dX8_from_215 rfl (lv_at hl 2 rfl) ?_
              refine lv_sipush (v := (208 : Int32)) hx hb dX8_from_216 (by decide) ?_
              refine lv_icmp_ge (tgt := 245) hx hb dX8_from_219 (by decide) (fun q15 => ?_) (fun q15 => ?_)
              · rw [if_pos q15] at hf
                refine lv_iconst (v := (1 : Int32)) hx hb dX8_from_245 (by decide) ?_
                exact re_i hx hb hr hlocks hW (Option.some.inj hf) dX8_from_246
              · rw [if_neg q15] at hf
                refine lv_aload_n hx hb dX8_from_222 rfl (lv_at hl 0 rfl) ?_
                refine gf_X8_ahead hx hb hts hown hW (kS_in (by decide)) iX8 (List.mem_of_getElem? (i := 13) rfl) dX8_from_223 ?_
                refine lv_iload_n hx hb dX8_from_226 rfl (lv_at hl 2 rfl) ?_
                refine lv_aload_n hx hb dX8_from_227 rfl (lv_at hl 0 rfl) ?_
                refine gf_X8_images hx hb hts hown hW (kS_in (by decide)) iX8 (List.mem_of_getElem? (i := 1) rfl) dX8_from_228 ?_
                refine lv_iload_n hx hb dX8_from_231 rfl (lv_at hl 1 rfl) ?_
                refine lv_bipush (v := (49 : Int32)) hx hb dX8_from_232 (by decide) ?_
                refine lv_iadd hx hb dX8_from_234 ?_
                refine lv_iload_n hx hb dX8_from_235 rfl (lv_at hl 2 rfl) ?_
                refine lv_iadd hx hb dX8_from_236 ?_
                obtain ⟨g16, hf⟩ := ss_if hf
                refine ra_i hx hb hW (kS_in (by decide)) g16 dX8_from_237 ?_
                obtain ⟨g17, hf⟩ := ss_if hf
                refine rs_i hx hb hW (kS_in (by decide)) g17 dX8_from_238 (fun H locs hW => ?_)
                refine lv_iinc (v := (x215_3 + (1 : Int32))) (lv' := [(3, .int (x215_3 + (1 : Int32))), (0, .ref (A 0 7 0)), (2, .int x182_2)]) hx hb dX8_from_239 hl (k := 2) rfl rfl (by decide) rfl (fun ls hl => ?_)
                refine lv_goto (tgt := 215) hx hb dX8_from_242 (by decide) ?_
                exact ih215 (x215_3 + (1 : Int32)) (sAu σ215_ 23 0 (upd (sA σ215_ 23 0) (x215_3).toNatClampNeg (sA σ215_ 31 0 (((x182_2 + (49 : Int32)) + x215_3)).toNatClampNeg))) _ _ _ hW (lv_sub hl [1, 2, 0] rfl) hf
          exact L215 FU (0 : Int32) σ213_ _ _ _ hW (lv_sub hl [1, 2, 0] rfl) hf
        have L184 : ∀ (n184 : Nat), ∀ (x184_3 : Int32) (σ184_ : ss_M) (H : Heap) (locs : List Loc) (ls : Array Slot), sW 1 D Y A σ184_ s s.heap H locs → lv_has ls 4 [(0, .ref (A 0 7 0)), (2, .int x182_2), (3, .int x184_3)] → f_X8_from_L184 x182_2 (f_X8_from_j213 x182_2) n184 x184_3 σ184_ = some (r, σ') → W p l e rm_X8_from s m args below meth c H locs 0 0 (MQ below (Qi0 1 D Y A r σ') args s 0 0 (FA 1 A)) (F0 m 184 ls []) := by
          intro n184
          induction n184 with
          | zero =>
            intro x184_3 σ184_ H locs ls hW hl hf
            rw [f_X8_from_L184] at hf
            cases hf
          | succ n184 ih184 =>
            intro x184_3 σ184_ H locs ls hW hl hf
            rw [f_X8_from_L184] at hf
            refine lv_iload_n hx hb dX8_from_184 rfl (lv_at hl 2 rfl) ?_
            refine lv_bipush (v := (6 : Int32)) hx hb dX8_from_185 (by decide) ?_
            refine lv_icmp_ge (tgt := 213) hx hb dX8_from_187 (by decide) (fun q18 => ?_) (fun q18 => ?_)
            · rw [if_pos q18] at hf
              exact J213 σ184_ _ _ _ hW (lv_sub hl [0, 1] rfl) hf
            · rw [if_neg q18] at hf
              refine lv_aload_n hx hb dX8_from_190 rfl (lv_at hl 0 rfl) ?_
              refine gf_X8_heards hx hb hts hown hW (kS_in (by decide)) iX8 (List.mem_of_getElem? (i := 12) rfl) dX8_from_191 ?_
              refine lv_iload_n hx hb dX8_from_194 rfl (lv_at hl 2 rfl) ?_
              refine lv_aload_n hx hb dX8_from_195 rfl (lv_at hl 0 rfl) ?_
              refine gf_X8_images hx hb hts hown hW (kS_in (by decide)) iX8 (List.mem_of_getElem? (i := 1) rfl) dX8_from_196 ?_
              refine lv_iload_n hx hb dX8_from_199 rfl (lv_at hl 1 rfl) ?_
              refine lv_bipush (v := (43 : Int32)) hx hb dX8_from_200 (by decide) ?_
              refine lv_iadd hx hb dX8_from_202 ?_
              refine lv_iload_n hx hb dX8_from_203 rfl (lv_at hl 2 rfl) ?_
              refine lv_iadd hx hb dX8_from_204 ?_
              obtain ⟨g19, hf⟩ := ss_if hf
              refine ra_i hx hb hW (kS_in (by decide)) g19 dX8_from_205 ?_
              obtain ⟨g20, hf⟩ := ss_if hf
              refine rs_i hx hb hW (kS_in (by decide)) g20 dX8_from_206 (fun H locs hW => ?_)
              refine lv_iinc (v := (x184_3 + (1 : Int32))) (lv' := [(3, .int (x184_3 + (1 : Int32))), (0, .ref (A 0 7 0)), (2, .int x182_2)]) hx hb dX8_from_207 hl (k := 2) rfl rfl (by decide) rfl (fun ls hl => ?_)
              refine lv_goto (tgt := 184) hx hb dX8_from_210 (by decide) ?_
              exact ih184 (x184_3 + (1 : Int32)) (sAu σ184_ 20 0 (upd (sA σ184_ 20 0) (x184_3).toNatClampNeg (sA σ184_ 31 0 (((x182_2 + (43 : Int32)) + x184_3)).toNatClampNeg))) _ _ _ hW (lv_sub hl [1, 2, 0] rfl) hf
        exact L184 FU (0 : Int32) σ182_ _ _ _ hW (lv_sub hl [1, 2, 0] rfl) hf
      have L119 : ∀ (n119 : Nat), ∀ (x119_2 : Int32) (x119_3 : Int32) (σ119_ : ss_M) (H : Heap) (locs : List Loc) (ls : Array Slot), sW 1 D Y A σ119_ s s.heap H locs → lv_has ls 4 [(0, .ref (A 0 7 0)), (2, .int x119_2), (3, .int x119_3)] → f_X8_from_L119 (f_X8_from_j182) n119 x119_2 x119_3 σ119_ = some (r, σ') → W p l e rm_X8_from s m args below meth c H locs 0 0 (MQ below (Qi0 1 D Y A r σ') args s 0 0 (FA 1 A)) (F0 m 119 ls []) := by
        intro n119
        induction n119 with
        | zero =>
          intro x119_2 x119_3 σ119_ H locs ls hW hl hf
          rw [f_X8_from_L119] at hf
          cases hf
        | succ n119 ih119 =>
          intro x119_2 x119_3 σ119_ H locs ls hW hl hf
          rw [f_X8_from_L119] at hf
          refine lv_iload_n hx hb dX8_from_119 rfl (lv_at hl 2 rfl) ?_
          refine lv_bipush (v := (12 : Int32)) hx hb dX8_from_120 (by decide) ?_
          refine lv_icmp_ge (tgt := 182) hx hb dX8_from_122 (by decide) (fun q21 => ?_) (fun q21 => ?_)
          · rw [if_pos q21] at hf
            exact J182 x119_2 σ119_ _ _ _ hW (lv_sub hl [0, 1] rfl) hf
          · rw [if_neg q21] at hf
            refine lv_aload_n hx hb dX8_from_125 rfl (lv_at hl 0 rfl) ?_
            refine gf_X8_lengths hx hb hts hown hW (kS_in (by decide)) iX8 (List.mem_of_getElem? (i := 9) rfl) dX8_from_126 ?_
            refine lv_iload_n hx hb dX8_from_129 rfl (lv_at hl 2 rfl) ?_
            refine lv_aload_n hx hb dX8_from_130 rfl (lv_at hl 0 rfl) ?_
            refine gf_X8_images hx hb hts hown hW (kS_in (by decide)) iX8 (List.mem_of_getElem? (i := 1) rfl) dX8_from_131 ?_
            refine lv_iload_n hx hb dX8_from_134 rfl (lv_at hl 1 rfl) ?_
            refine lv_bipush (v := (7 : Int32)) hx hb dX8_from_135 (by decide) ?_
            refine lv_iadd hx hb dX8_from_137 ?_
            refine lv_iload_n hx hb dX8_from_138 rfl (lv_at hl 2 rfl) ?_
            refine lv_iadd hx hb dX8_from_139 ?_
            obtain ⟨g22, hf⟩ := ss_if hf
            refine ra_i hx hb hW (kS_in (by decide)) g22 dX8_from_140 ?_
            obtain ⟨g23, hf⟩ := ss_if hf
            refine rs_i hx hb hW (kS_in (by decide)) g23 dX8_from_141 (fun H locs hW => ?_)
            refine lv_aload_n hx hb dX8_from_142 rfl (lv_at hl 0 rfl) ?_
            refine gf_X8_kinds hx hb hts hown hW (kS_in (by decide)) iX8 (List.mem_of_getElem? (i := 10) rfl) dX8_from_143 ?_
            refine lv_iload_n hx hb dX8_from_146 rfl (lv_at hl 2 rfl) ?_
            refine lv_aload_n hx hb dX8_from_147 rfl (lv_at hl 0 rfl) ?_
            refine gf_X8_images hx hb hts hown hW (kS_in (by decide)) iX8 (List.mem_of_getElem? (i := 1) rfl) dX8_from_148 ?_
            refine lv_iload_n hx hb dX8_from_151 rfl (lv_at hl 1 rfl) ?_
            refine lv_bipush (v := (19 : Int32)) hx hb dX8_from_152 (by decide) ?_
            refine lv_iadd hx hb dX8_from_154 ?_
            refine lv_iload_n hx hb dX8_from_155 rfl (lv_at hl 2 rfl) ?_
            refine lv_iadd hx hb dX8_from_156 ?_
            obtain ⟨g24, hf⟩ := ss_if hf
            refine ra_i hx hb hW (kS_in (by decide)) g24 dX8_from_157 ?_
            obtain ⟨g25, hf⟩ := ss_if hf
            refine rs_i hx hb hW (kS_in (by decide)) g25 dX8_from_158 (fun H locs hW => ?_)
            obtain ⟨σm26, eσm26, hf⟩ := ss_let_some hf
            rw [← eσm26] at hW
            refine lv_aload_n hx hb dX8_from_159 rfl (lv_at hl 0 rfl) ?_
            refine gf_X8_reads hx hb hts hown hW (kS_in (by decide)) iX8 (List.mem_of_getElem? (i := 11) rfl) dX8_from_160 ?_
            refine lv_iload_n hx hb dX8_from_163 rfl (lv_at hl 2 rfl) ?_
            refine lv_aload_n hx hb dX8_from_164 rfl (lv_at hl 0 rfl) ?_
            refine gf_X8_images hx hb hts hown hW (kS_in (by decide)) iX8 (List.mem_of_getElem? (i := 1) rfl) dX8_from_165 ?_
            refine lv_iload_n hx hb dX8_from_168 rfl (lv_at hl 1 rfl) ?_
            refine lv_bipush (v := (31 : Int32)) hx hb dX8_from_169 (by decide) ?_
            refine lv_iadd hx hb dX8_from_171 ?_
            refine lv_iload_n hx hb dX8_from_172 rfl (lv_at hl 2 rfl) ?_
            refine lv_iadd hx hb dX8_from_173 ?_
            obtain ⟨g27, hf⟩ := ss_if hf
            refine ra_i hx hb hW (kS_in (by decide)) g27 dX8_from_174 ?_
            obtain ⟨g28, hf⟩ := ss_if hf
            refine rs_i hx hb hW (kS_in (by decide)) g28 dX8_from_175 (fun H locs hW => ?_)
            refine lv_iinc (v := (x119_3 + (1 : Int32))) (lv' := [(3, .int (x119_3 + (1 : Int32))), (0, .ref (A 0 7 0)), (2, .int x119_2)]) hx hb dX8_from_176 hl (k := 2) rfl rfl (by decide) rfl (fun ls hl => ?_)
            refine lv_goto (tgt := 119) hx hb dX8_from_179 (by decide) ?_
            exact ih119 x119_2 (x119_3 + (1 : Int32)) (sAu σm26 19 0 (upd (sA σm26 19 0) (x119_3).toNatClampNeg (sA σm26 31 0 (((x119_2 + (31 : Int32)) + x119_3)).toNatClampNeg))) _ _ _ hW (lv_sub hl [1, 2, 0] rfl) hf
      exact L119 FU ((258 : Int32) * p0) (0 : Int32) (sGu σm13 27 0 (sA σm13 31 0 ((((258 : Int32) * p0) + (6 : Int32))).toNatClampNeg)) _ _ _ hW (lv_sub hl [2, 1, 0] rfl) hf
    · rw [if_pos q4] at hf
      refine lv_aload_n hx hb dX8_from_29 rfl (lv_at hl 1 rfl) ?_
      obtain ⟨r29, σ29, hf29, hf⟩ := ss_bd_some hf
      refine rv_i S (c_X8_no l hAD  hf29) (cwV 0 hts gX8_from_X8_no rfl rfl rfl hd_X8_no ⟨(Nat.le_of_ble_eq_true rfl), (Nat.le_of_ble_eq_true rfl)⟩) hW (kS_in (by decide)) rfl rfl rfl hl.1 (Nat.le_of_ble_eq_true rfl) ⟨Nat.zero_le _, Nat.zero_le _⟩ dX8_from_30 (fun H locs hW => ?_)
      exact re_i hx hb hr hlocks hW (Option.some.inj hf) dX8_from_33
  · rw [if_pos q2] at hf
    refine lv_aload_n hx hb dX8_from_9 rfl (lv_at hl 0 rfl) ?_
    obtain ⟨r30, σ30, hf30, hf⟩ := ss_bd_some hf
    refine rv_i S (c_X8_bad l hAD  hf30) (cwV 0 hts gX8_from_X8_bad rfl rfl rfl hd_X8_bad ⟨(Nat.le_of_ble_eq_true rfl), (Nat.le_of_ble_eq_true rfl)⟩) hW (kS_in (by decide)) rfl rfl rfl hl.1 (Nat.le_of_ble_eq_true rfl) ⟨Nat.zero_le _, Nat.zero_le _⟩ dX8_from_10 (fun H locs hW => ?_)
    exact re_i hx hb hr hlocks hW (Option.some.inj hf) dX8_from_13
def f_X8_status (p0 : Int32) (σ : ss_M) : Option (Int32 × ss_M) :=
  ss_bd (f_X8_in p0 (0 : Int32) (2 : Int32) σ) (fun r1 σ1 => if r1 = (0 : Int32) then (if gd (0 : Int32) 3 = true then (if gd (0 : Int32) 3 = true then (some ((-1 : Int32), (sAu σ1 16 0 (upd (sA σ1 16 0) ((0 : Int32)).toNatClampNeg ((sA σ1 16 0 ((0 : Int32)).toNatClampNeg) + (1 : Int32)))))) else none) else none) else (if gd p0 3 = true then (some ((sA σ1 16 0 (p0).toNatClampNeg), σ1)) else none))
def rm_X8_status : Room := { frames := 2, cells := 0, slots := 0, locals := 100 }
theorem hd_X8_status : yX8_status.cls = RX8 ∧ yX8_status.cls ≠ "java/lang/invoke/MethodHandle" ∧ yX8_status.cls ≠ "java/lang/invoke/VarHandle" ∧ (parseMethodDescriptor yX8_status.desc).map (fun d => d.parameters.length) = some 1 := by decide +kernel
set_option maxHeartbeats 4000000 in
set_option maxRecDepth 100000 in
theorem c_X8_status (l : Launch) {D : va_G} {Y : Nat → ClassId} {A : ss_A} (hAD : AD 1 A) {p0 : Int32}  {r : Int32} {σ σ' : ss_M} (hf : f_X8_status p0 σ = some (r, σ')) : Met l yX8_status wsX8_status rm_X8_status (Pc0 1 D Y A σ [.ref (A 0 7 0), .int p0]) (Qi0 1 D Y A r σ') 0 0 (FA 1 A) := by
  rw [f_X8_status] at hf
  refine Met0 (cc := cX8_status) (maxL := 2) (ret := (some .int)) (own := RX8) (by decide +kernel) rfl hAD rfl (Nat.le_of_ble_eq_true rfl) ?_
  intro p e s m args below meth c S hr hlocks hW ls hl
  obtain ⟨hx, hb, hml, hown, hts⟩ := id S
  have iX8 : ∀ q ∈ wsX80, q ∈ wsX8_status := fun q h => List.mem_cons_of_mem _ (List.mem_append_right _ (h))
  have hl : lv_has ls 2 [(0, .ref (A 0 7 0)), (1, .int p0)] := hl
  refine lv_iload_n hx hb dX8_status_0 rfl (lv_at hl 1 rfl) ?_
  refine lv_iconst (v := (0 : Int32)) hx hb dX8_status_1 (by decide) ?_
  refine lv_iconst (v := (2 : Int32)) hx hb dX8_status_2 (by decide) ?_
  obtain ⟨r1, σ1, hf1, hf⟩ := ss_bd_some hf
  refine rt_i S (c_X8_in l hAD  hf1) (va_cwS 3 hts gX8_status_X8_in rfl rfl rfl hd_X8_in ⟨(Nat.le_of_ble_eq_true rfl), (Nat.le_of_ble_eq_true rfl)⟩) hW rfl rfl hl.1 (Nat.le_of_ble_eq_true rfl) ⟨Nat.zero_le _, Nat.zero_le _⟩ dX8_status_3 (fun H locs hW => ?_)
  refine lv_if_ne (tgt := 21) hx hb dX8_status_6 (by decide) (fun q2 => ?_) (fun q2 => ?_)
  · rw [if_neg q2] at hf
    refine lv_aload_n hx hb dX8_status_21 rfl (lv_at hl 0 rfl) ?_
    refine gf_X8_refused hx hb hts hown hW (kS_in (by decide)) iX8 (List.mem_of_getElem? (i := 1) rfl) dX8_status_22 ?_
    refine lv_iload_n hx hb dX8_status_25 rfl (lv_at hl 1 rfl) ?_
    obtain ⟨g3, hf⟩ := ss_if hf
    refine ra_i hx hb hW (kS_in (by decide)) g3 dX8_status_26 ?_
    exact re_i hx hb hr hlocks hW (Option.some.inj hf) dX8_status_27
  · rw [if_pos q2] at hf
    refine lv_aload_n hx hb dX8_status_9 rfl (lv_at hl 0 rfl) ?_
    refine gf_X8_refused hx hb hts hown hW (kS_in (by decide)) iX8 (List.mem_of_getElem? (i := 1) rfl) dX8_status_10 ?_
    refine lv_iconst (v := (0 : Int32)) hx hb dX8_status_13 (by decide) ?_
    refine lv_dup2_11 hx hb dX8_status_14 rfl rfl ?_
    obtain ⟨g4, hf⟩ := ss_if hf
    refine ra_i hx hb hW (kS_in (by decide)) g4 dX8_status_15 ?_
    refine lv_iconst (v := (1 : Int32)) hx hb dX8_status_16 (by decide) ?_
    refine lv_iadd hx hb dX8_status_17 ?_
    obtain ⟨g5, hf⟩ := ss_if hf
    refine rs_i hx hb hW (kS_in (by decide)) g5 dX8_status_18 (fun H locs hW => ?_)
    refine lv_iconst (v := (-1 : Int32)) hx hb dX8_status_19 (by decide) ?_
    exact re_i hx hb hr hlocks hW (Option.some.inj hf) dX8_status_20
def f_X8_countOf_j36 (p0 : Int32) (x36_2 : Int32) (σ36_ : ss_M) : Option (Int32 × ss_M) :=
  if p0 = (0 : Int32) then (some ((sG σ36_ 17 0), σ36_)) else if p0 = (1 : Int32) then (some (x36_2, σ36_)) else if p0 = (2 : Int32) then (some ((sG σ36_ 18 0), σ36_)) else if p0 = (3 : Int32) then (some ((sG σ36_ 19 0), σ36_)) else if p0 = (4 : Int32) then (some ((sG σ36_ 20 0), σ36_)) else if p0 = (5 : Int32) then (some ((sG σ36_ 21 0), σ36_)) else if p0 = (6 : Int32) then (some ((sG σ36_ 22 0), σ36_)) else if p0 = (7 : Int32) then (some ((sG σ36_ 27 0), σ36_)) else (some ((sG σ36_ 23 0), σ36_))
def f_X8_countOf_j28 (x4_2 : Int32) (x4_3 : Int32) (kb4 : Int32 → Int32 → ss_M → Option (Int32 × ss_M)) (s28_0 : Int32) (σ28_ : ss_M) : Option (Int32 × ss_M) :=
  kb4 (x4_2 + s28_0) (x4_3 + (1 : Int32)) σ28_
def f_X8_countOf_L4 (k4_36 : Int32 → ss_M → Option (Int32 × ss_M)) : Nat → Int32 → Int32 → ss_M → Option (Int32 × ss_M)
  | 0, _, _, _ => none
  | n4 + 1, x4_2, x4_3, σ4_ => if (sG σ4_ 17 0) ≤ x4_3 then (k4_36 x4_2 σ4_) else (if gd x4_3 12 = true then (if (sA σ4_ 18 0 (x4_3).toNatClampNeg) = (-1 : Int32) then (f_X8_countOf_j28 x4_2 x4_3 (f_X8_countOf_L4 k4_36 n4) (0 : Int32) σ4_) else (f_X8_countOf_j28 x4_2 x4_3 (f_X8_countOf_L4 k4_36 n4) (1 : Int32) σ4_)) else none)
def f_X8_countOf (p0 : Int32) (σ : ss_M) : Option (Int32 × ss_M) :=
  f_X8_countOf_L4 (f_X8_countOf_j36 p0) FU (0 : Int32) (0 : Int32) σ
def rm_X8_countOf : Room := { frames := 0, cells := 0, slots := 0, locals := 0 }
theorem hd_X8_countOf : yX8_countOf.cls = RX8 ∧ yX8_countOf.cls ≠ "java/lang/invoke/MethodHandle" ∧ yX8_countOf.cls ≠ "java/lang/invoke/VarHandle" ∧ (parseMethodDescriptor yX8_countOf.desc).map (fun d => d.parameters.length) = some 1 := by decide +kernel
set_option maxHeartbeats 4000000 in
set_option maxRecDepth 100000 in
theorem c_X8_countOf (l : Launch) {D : va_G} {Y : Nat → ClassId} {A : ss_A} (hAD : AD 1 A) {p0 : Int32}  {r : Int32} {σ σ' : ss_M} (hf : f_X8_countOf p0 σ = some (r, σ')) : Met l yX8_countOf wsX8_countOf rm_X8_countOf (Pc0 1 D Y A σ [.ref (A 0 7 0), .int p0]) (Qi0 1 D Y A r σ') 0 0 (FA 1 A) := by
  rw [f_X8_countOf] at hf
  refine Met0 (cc := cX8_countOf) (maxL := 4) (ret := (some .int)) (own := RX8) (by decide +kernel) rfl hAD rfl (Nat.le_of_ble_eq_true rfl) ?_
  intro p e s m args below meth c S hr hlocks hW ls hl
  obtain ⟨hx, hb, hml, hown, hts⟩ := id S
  have iX8 : ∀ q ∈ wsX80, q ∈ wsX8_countOf := fun q h => List.mem_cons_of_mem _ (List.mem_append_right _ (h))
  have hl : lv_has ls 4 [(0, .ref (A 0 7 0)), (1, .int p0)] := hl
  refine lv_iconst (v := (0 : Int32)) hx hb dX8_countOf_0 (by decide) ?_
  refine lv_istore_n (lv' := [(2, .int (0 : Int32)), (0, .ref (A 0 7 0)), (1, .int p0)]) hx hb dX8_countOf_1 rfl hl (by decide) rfl (fun ls hl => ?_)
  refine lv_iconst (v := (0 : Int32)) hx hb dX8_countOf_2 (by decide) ?_
  refine lv_istore_n (lv' := [(3, .int (0 : Int32)), (2, .int (0 : Int32)), (0, .ref (A 0 7 0)), (1, .int p0)]) hx hb dX8_countOf_3 rfl hl (by decide) rfl (fun ls hl => ?_)
  have J36 : ∀ (x36_2 : Int32) (σ36_ : ss_M) (H : Heap) (locs : List Loc) (ls : Array Slot), sW 1 D Y A σ36_ s s.heap H locs → lv_has ls 4 [(0, .ref (A 0 7 0)), (1, .int p0), (2, .int x36_2)] → f_X8_countOf_j36 p0 x36_2 σ36_ = some (r, σ') → W p l e rm_X8_countOf s m args below meth c H locs 0 0 (MQ below (Qi0 1 D Y A r σ') args s 0 0 (FA 1 A)) (F0 m 36 ls []) := by
    intro x36_2 σ36_ H locs ls hW hl hf
    rw [f_X8_countOf_j36] at hf
    refine lv_iload_n hx hb dX8_countOf_36 rfl (lv_at hl 1 rfl) ?_
    by_cases q1 : p0 = (0 : Int32)
    · rw [if_pos q1] at hf
      refine lv_tableIn (off := 47) (tgt := 84) hx hb dX8_countOf_37 (by rw [q1]; decide) (by rw [q1]; decide) (by rw [q1]; decide) (by decide) ?_
      refine lv_aload_n hx hb dX8_countOf_84 rfl (lv_at hl 0 rfl) ?_
      refine gf_X8_many hx hb hts hown hW (kS_in (by decide)) iX8 (List.mem_of_getElem? (i := 1) rfl) dX8_countOf_85 ?_
      exact re_i hx hb hr hlocks hW (Option.some.inj hf) dX8_countOf_88
    · rw [if_neg q1] at hf
      by_cases q2 : p0 = (1 : Int32)
      · rw [if_pos q2] at hf
        refine lv_tableIn (off := 52) (tgt := 89) hx hb dX8_countOf_37 (by rw [q2]; decide) (by rw [q2]; decide) (by rw [q2]; decide) (by decide) ?_
        refine lv_iload_n hx hb dX8_countOf_89 rfl (lv_at hl 2 rfl) ?_
        exact re_i hx hb hr hlocks hW (Option.some.inj hf) dX8_countOf_90
      · rw [if_neg q2] at hf
        by_cases q3 : p0 = (2 : Int32)
        · rw [if_pos q3] at hf
          refine lv_tableIn (off := 54) (tgt := 91) hx hb dX8_countOf_37 (by rw [q3]; decide) (by rw [q3]; decide) (by rw [q3]; decide) (by decide) ?_
          refine lv_aload_n hx hb dX8_countOf_91 rfl (lv_at hl 0 rfl) ?_
          refine gf_X8_breath hx hb hts hown hW (kS_in (by decide)) iX8 (List.mem_of_getElem? (i := 3) rfl) dX8_countOf_92 ?_
          exact re_i hx hb hr hlocks hW (Option.some.inj hf) dX8_countOf_95
        · rw [if_neg q3] at hf
          by_cases q4 : p0 = (3 : Int32)
          · rw [if_pos q4] at hf
            refine lv_tableIn (off := 59) (tgt := 96) hx hb dX8_countOf_37 (by rw [q4]; decide) (by rw [q4]; decide) (by rw [q4]; decide) (by decide) ?_
            refine lv_aload_n hx hb dX8_countOf_96 rfl (lv_at hl 0 rfl) ?_
            refine gf_X8_price hx hb hts hown hW (kS_in (by decide)) iX8 (List.mem_of_getElem? (i := 4) rfl) dX8_countOf_97 ?_
            exact re_i hx hb hr hlocks hW (Option.some.inj hf) dX8_countOf_100
          · rw [if_neg q4] at hf
            by_cases q5 : p0 = (4 : Int32)
            · rw [if_pos q5] at hf
              refine lv_tableIn (off := 64) (tgt := 101) hx hb dX8_countOf_37 (by rw [q5]; decide) (by rw [q5]; decide) (by rw [q5]; decide) (by decide) ?_
              refine lv_aload_n hx hb dX8_countOf_101 rfl (lv_at hl 0 rfl) ?_
              refine gf_X8_purse hx hb hts hown hW (kS_in (by decide)) iX8 (List.mem_of_getElem? (i := 5) rfl) dX8_countOf_102 ?_
              exact re_i hx hb hr hlocks hW (Option.some.inj hf) dX8_countOf_105
            · rw [if_neg q5] at hf
              by_cases q6 : p0 = (5 : Int32)
              · rw [if_pos q6] at hf
                refine lv_tableIn (off := 69) (tgt := 106) hx hb dX8_countOf_37 (by rw [q6]; decide) (by rw [q6]; decide) (by rw [q6]; decide) (by decide) ?_
                refine lv_aload_n hx hb dX8_countOf_106 rfl (lv_at hl 0 rfl) ?_
                refine gf_X8_week hx hb hts hown hW (kS_in (by decide)) iX8 (List.mem_of_getElem? (i := 6) rfl) dX8_countOf_107 ?_
                exact re_i hx hb hr hlocks hW (Option.some.inj hf) dX8_countOf_110
              · rw [if_neg q6] at hf
                by_cases q7 : p0 = (6 : Int32)
                · rw [if_pos q7] at hf
                  refine lv_tableIn (off := 74) (tgt := 111) hx hb dX8_countOf_37 (by rw [q7]; decide) (by rw [q7]; decide) (by rw [q7]; decide) (by decide) ?_
                  refine lv_aload_n hx hb dX8_countOf_111 rfl (lv_at hl 0 rfl) ?_
                  refine gf_X8_heardMany hx hb hts hown hW (kS_in (by decide)) iX8 (List.mem_of_getElem? (i := 7) rfl) dX8_countOf_112 ?_
                  exact re_i hx hb hr hlocks hW (Option.some.inj hf) dX8_countOf_115
                · rw [if_neg q7] at hf
                  by_cases q8 : p0 = (7 : Int32)
                  · rw [if_pos q8] at hf
                    refine lv_tableIn (off := 79) (tgt := 116) hx hb dX8_countOf_37 (by rw [q8]; decide) (by rw [q8]; decide) (by rw [q8]; decide) (by decide) ?_
                    refine lv_aload_n hx hb dX8_countOf_116 rfl (lv_at hl 0 rfl) ?_
                    refine gf_X8_undoMany hx hb hts hown hW (kS_in (by decide)) iX8 (List.mem_of_getElem? (i := 8) rfl) dX8_countOf_117 ?_
                    exact re_i hx hb hr hlocks hW (Option.some.inj hf) dX8_countOf_120
                  · rw [if_neg q8] at hf
                    refine lv_tableOut (tgt := 121) hx hb dX8_countOf_37 (by have z := And.intro (lv_neT q1 (a := 0) rfl) (And.intro (lv_neT q2 (a := 1) rfl) (And.intro (lv_neT q3 (a := 2) rfl) (And.intro (lv_neT q4 (a := 3) rfl) (And.intro (lv_neT q5 (a := 4) rfl) (And.intro (lv_neT q6 (a := 5) rfl) (And.intro (lv_neT q7 (a := 6) rfl) (lv_neT q8 (a := 7) rfl))))))); omega) (by decide) ?_
                    refine lv_aload_n hx hb dX8_countOf_121 rfl (lv_at hl 0 rfl) ?_
                    refine gf_X8_typed hx hb hts hown hW (kS_in (by decide)) iX8 (List.mem_of_getElem? (i := 9) rfl) dX8_countOf_122 ?_
                    exact re_i hx hb hr hlocks hW (Option.some.inj hf) dX8_countOf_125
  have L4 : ∀ (n4 : Nat), ∀ (x4_2 : Int32) (x4_3 : Int32) (σ4_ : ss_M) (H : Heap) (locs : List Loc) (ls : Array Slot), sW 1 D Y A σ4_ s s.heap H locs → lv_has ls 4 [(0, .ref (A 0 7 0)), (1, .int p0), (2, .int x4_2), (3, .int x4_3)] → f_X8_countOf_L4 (f_X8_countOf_j36 p0) n4 x4_2 x4_3 σ4_ = some (r, σ') → W p l e rm_X8_countOf s m args below meth c H locs 0 0 (MQ below (Qi0 1 D Y A r σ') args s 0 0 (FA 1 A)) (F0 m 4 ls []) := by
    intro n4
    induction n4 with
    | zero =>
      intro x4_2 x4_3 σ4_ H locs ls hW hl hf
      rw [f_X8_countOf_L4] at hf
      cases hf
    | succ n4 ih4 =>
      intro x4_2 x4_3 σ4_ H locs ls hW hl hf
      rw [f_X8_countOf_L4] at hf
      refine lv_iload_n hx hb dX8_countOf_4 rfl (lv_at hl 3 rfl) ?_
      refine lv_aload_n hx hb dX8_countOf_5 rfl (lv_at hl 0 rfl) ?_
      refine gf_X8_many hx hb hts hown hW (kS_in (by decide)) iX8 (List.mem_of_getElem? (i := 1) rfl) dX8_countOf_6 ?_
      refine lv_icmp_ge (tgt := 36) hx hb dX8_countOf_9 (by decide) (fun q9 => ?_) (fun q9 => ?_)
      · rw [if_pos q9] at hf
        exact J36 x4_2 σ4_ _ _ _ hW (lv_sub hl [0, 1, 2] rfl) hf
      · rw [if_neg q9] at hf
        refine lv_iload_n hx hb dX8_countOf_12 rfl (lv_at hl 2 rfl) ?_
        refine lv_aload_n hx hb dX8_countOf_13 rfl (lv_at hl 0 rfl) ?_
        refine gf_X8_kinds hx hb hts hown hW (kS_in (by decide)) iX8 (List.mem_of_getElem? (i := 2) rfl) dX8_countOf_14 ?_
        refine lv_iload_n hx hb dX8_countOf_17 rfl (lv_at hl 3 rfl) ?_
        obtain ⟨g10, hf⟩ := ss_if hf
        refine ra_i hx hb hW (kS_in (by decide)) g10 dX8_countOf_18 ?_
        refine lv_iconst (v := (-1 : Int32)) hx hb dX8_countOf_19 (by decide) ?_
        have J28 : ∀ (s28_0 : Int32) (σ28_ : ss_M) (H : Heap) (locs : List Loc) (ls : Array Slot), sW 1 D Y A σ28_ s s.heap H locs → lv_has ls 4 [(0, .ref (A 0 7 0)), (1, .int p0), (3, .int x4_3)] → f_X8_countOf_j28 x4_2 x4_3 (f_X8_countOf_L4 (f_X8_countOf_j36 p0) n4) s28_0 σ28_ = some (r, σ') → W p l e rm_X8_countOf s m args below meth c H locs 0 0 (MQ below (Qi0 1 D Y A r σ') args s 0 0 (FA 1 A)) (F0 m 28 ls [.int s28_0, .int x4_2]) := by
          intro s28_0 σ28_ H locs ls hW hl hf
          rw [f_X8_countOf_j28] at hf
          refine lv_iadd hx hb dX8_countOf_28 ?_
          refine lv_istore_n (lv' := [(2, .int (x4_2 + s28_0)), (0, .ref (A 0 7 0)), (1, .int p0), (3, .int x4_3)]) hx hb dX8_countOf_29 rfl hl (by decide) rfl (fun ls hl => ?_)
          refine lv_iinc (v := (x4_3 + (1 : Int32))) (lv' := [(3, .int (x4_3 + (1 : Int32))), (2, .int (x4_2 + s28_0)), (0, .ref (A 0 7 0)), (1, .int p0)]) hx hb dX8_countOf_30 hl (k := 3) rfl rfl (by decide) rfl (fun ls hl => ?_)
          refine lv_goto (tgt := 4) hx hb dX8_countOf_33 (by decide) ?_
          exact ih4 (x4_2 + s28_0) (x4_3 + (1 : Int32)) σ28_ _ _ _ hW (lv_sub hl [2, 3, 1, 0] rfl) hf
        refine lv_icmp_ne (tgt := 27) hx hb dX8_countOf_20 (by decide) (fun q11 => ?_) (fun q11 => ?_)
        · rw [if_neg q11] at hf
          refine lv_iconst (v := (1 : Int32)) hx hb dX8_countOf_27 (by decide) ?_
          exact J28 (1 : Int32) σ4_ _ _ _ hW (lv_sub hl [0, 1, 3] rfl) hf
        · rw [if_pos q11] at hf
          refine lv_iconst (v := (0 : Int32)) hx hb dX8_countOf_23 (by decide) ?_
          refine lv_goto (tgt := 28) hx hb dX8_countOf_24 (by decide) ?_
          exact J28 (0 : Int32) σ4_ _ _ _ hW (lv_sub hl [0, 1, 3] rfl) hf
  exact L4 FU (0 : Int32) (0 : Int32) σ _ _ _ hW (lv_sub hl [2, 3, 1, 0] rfl) hf
def f_X8_count (p0 : Int32) (σ : ss_M) : Option (Int32 × ss_M) :=
  ss_bd (f_X8_in p0 (0 : Int32) (8 : Int32) σ) (fun r1 σ1 => if r1 = (0 : Int32) then (ss_bd (f_X8_bad σ1) (fun r3 σ3 => some (r3, σ3))) else (ss_bd (f_X8_countOf p0 σ1) (fun r4 σ4 => some (r4, σ4))))
def rm_X8_count : Room := { frames := 2, cells := 0, slots := 0, locals := 100 }
theorem hd_X8_count : yX8_count.cls = RX8 ∧ yX8_count.cls ≠ "java/lang/invoke/MethodHandle" ∧ yX8_count.cls ≠ "java/lang/invoke/VarHandle" ∧ (parseMethodDescriptor yX8_count.desc).map (fun d => d.parameters.length) = some 1 := by decide +kernel
set_option maxHeartbeats 4000000 in
set_option maxRecDepth 100000 in
theorem c_X8_count (l : Launch) {D : va_G} {Y : Nat → ClassId} {A : ss_A} (hAD : AD 1 A) {p0 : Int32}  {r : Int32} {σ σ' : ss_M} (hf : f_X8_count p0 σ = some (r, σ')) : Met l yX8_count wsX8_count rm_X8_count (Pc0 1 D Y A σ [.ref (A 0 7 0), .int p0]) (Qi0 1 D Y A r σ') 0 0 (FA 1 A) := by
  rw [f_X8_count] at hf
  refine Met0 (cc := cX8_count) (maxL := 2) (ret := (some .int)) (own := RX8) (by decide +kernel) rfl hAD rfl (Nat.le_of_ble_eq_true rfl) ?_
  intro p e s m args below meth c S hr hlocks hW ls hl
  obtain ⟨hx, hb, hml, hown, hts⟩ := id S
  have hl : lv_has ls 2 [(0, .ref (A 0 7 0)), (1, .int p0)] := hl
  refine lv_iload_n hx hb dX8_count_0 rfl (lv_at hl 1 rfl) ?_
  refine lv_iconst (v := (0 : Int32)) hx hb dX8_count_1 (by decide) ?_
  refine lv_bipush (v := (8 : Int32)) hx hb dX8_count_2 (by decide) ?_
  obtain ⟨r1, σ1, hf1, hf⟩ := ss_bd_some hf
  refine rt_i S (c_X8_in l hAD  hf1) (va_cwS 3 hts gX8_count_X8_in rfl rfl rfl hd_X8_in ⟨(Nat.le_of_ble_eq_true rfl), (Nat.le_of_ble_eq_true rfl)⟩) hW rfl rfl hl.1 (Nat.le_of_ble_eq_true rfl) ⟨Nat.zero_le _, Nat.zero_le _⟩ dX8_count_4 (fun H locs hW => ?_)
  refine lv_if_eq (tgt := 18) hx hb dX8_count_7 (by decide) (fun q2 => ?_) (fun q2 => ?_)
  · rw [if_pos q2] at hf
    refine lv_aload_n hx hb dX8_count_18 rfl (lv_at hl 0 rfl) ?_
    obtain ⟨r3, σ3, hf3, hf⟩ := ss_bd_some hf
    refine rv_i S (c_X8_bad l hAD  hf3) (cwV 0 hts gX8_count_X8_bad rfl rfl rfl hd_X8_bad ⟨(Nat.le_of_ble_eq_true rfl), (Nat.le_of_ble_eq_true rfl)⟩) hW (kS_in (by decide)) rfl rfl rfl hl.1 (Nat.le_of_ble_eq_true rfl) ⟨Nat.zero_le _, Nat.zero_le _⟩ dX8_count_19 (fun H locs hW => ?_)
    exact re_i hx hb hr hlocks hW (Option.some.inj hf) dX8_count_22
  · rw [if_neg q2] at hf
    refine lv_aload_n hx hb dX8_count_10 rfl (lv_at hl 0 rfl) ?_
    refine lv_iload_n hx hb dX8_count_11 rfl (lv_at hl 1 rfl) ?_
    obtain ⟨r4, σ4, hf4, hf⟩ := ss_bd_some hf
    refine rv_i S (c_X8_countOf l hAD  hf4) (cwV 1 hts gX8_count_X8_countOf rfl rfl rfl hd_X8_countOf ⟨(Nat.le_of_ble_eq_true rfl), (Nat.le_of_ble_eq_true rfl)⟩) hW (kS_in (by decide)) rfl rfl rfl hl.1 (Nat.le_of_ble_eq_true rfl) ⟨Nat.zero_le _, Nat.zero_le _⟩ dX8_count_12 (fun H locs hW => ?_)
    refine lv_goto (tgt := 22) hx hb dX8_count_15 (by decide) ?_
    exact re_i hx hb hr hlocks hW (Option.some.inj hf) dX8_count_22
def f_X8_mix (p0 : Int64) (σ : ss_M) : Option ss_M :=
  some (sLu σ 4 (((31 : Int64) * (sL σ 4)) + p0))
def rm_X8_mix : Room := { frames := 0, cells := 0, slots := 0, locals := 0 }
theorem hd_X8_mix : yX8_mix.cls = RX8 ∧ yX8_mix.cls ≠ "java/lang/invoke/MethodHandle" ∧ yX8_mix.cls ≠ "java/lang/invoke/VarHandle" ∧ (parseMethodDescriptor yX8_mix.desc).map (fun d => d.parameters.length) = some 1 := by decide +kernel
set_option maxHeartbeats 4000000 in
set_option maxRecDepth 100000 in
theorem c_X8_mix (l : Launch) {D : va_G} {Y : Nat → ClassId} {A : ss_A} (hAD : AD 1 A) {p0 : Int64}  {σ σ' : ss_M} (hf : f_X8_mix p0 σ = some σ') : Met l yX8_mix wsX8_mix rm_X8_mix (Pc0 1 D Y A σ [.ref (A 0 7 0), .long p0]) (Qv0 1 D Y A σ') 0 0 (FA 1 A) := by
  rw [f_X8_mix] at hf
  refine Met0 (cc := cX8_mix) (maxL := 3) (ret := none) (own := RX8) (by decide +kernel) rfl hAD rfl (Nat.le_of_ble_eq_true rfl) ?_
  intro p e s m args below meth c S hr hlocks hW ls hl
  obtain ⟨hx, hb, hml, hown, hts⟩ := id S
  have iX8 : ∀ q ∈ wsX80, q ∈ wsX8_mix := fun q h => List.mem_cons_of_mem _ (List.mem_append_right _ (h))
  have hl : lv_has ls 3 [(0, .ref (A 0 7 0)), (1, .long p0)] := hl
  refine lv_aload_n hx hb dX8_mix_0 rfl (lv_at hl 0 rfl) ?_
  refine lv_ldc2 hx hb hown (hts _ (List.mem_of_getElem? (i := 1) rfl)) dX8_mix_1 ?_
  refine lv_aload_n hx hb dX8_mix_4 rfl (lv_at hl 0 rfl) ?_
  refine gf_X8_h0 hx hb hts hown hW (kS_in (by decide)) iX8 (List.mem_of_getElem? (i := 2) rfl) dX8_mix_5 ?_
  refine lv_lmul hx hb dX8_mix_8 ?_
  refine lv_lload_n hx hb dX8_mix_9 rfl (lv_at hl 1 rfl) ?_
  refine lv_ladd hx hb dX8_mix_10 ?_
  refine pf_X8_h0 hx hb hts hown hW (kS_in (by decide)) iX8 (List.mem_of_getElem? (i := 2) rfl) dX8_mix_11 (fun H locs hW => ?_)
  exact re_v hx hb hr hlocks hW (Option.some.inj hf) dX8_mix_14
def f_X8_digest_j107 (σ107_ : ss_M) : Option (Int64 × ss_M) :=
  Option.bind (f_X8_mix (sL σ107_ 2) σ107_) (fun σ1 => Option.bind (f_X8_mix (sL σ1 3) σ1) (fun σ2 => some ((sL σ2 4), σ2)))
def f_X8_digest_L82 (k82_107 : ss_M → Option (Int64 × ss_M)) : Nat → Int32 → ss_M → Option (Int64 × ss_M)
  | 0, _, _ => none
  | n82 + 1, x82_1, σ82_ => if (sG σ82_ 22 0) ≤ x82_1 then (k82_107 σ82_) else (if gd x82_1 6 = true then (Option.bind (f_X8_mix (((sA σ82_ 20 0 (x82_1).toNatClampNeg)).toInt64) σ82_) (fun σ5 => (f_X8_digest_L82 k82_107 n82) (x82_1 + (1 : Int32)) σ5)) else none)
def f_X8_digest_j80 (σ80_ : ss_M) : Option (Int64 × ss_M) :=
  f_X8_digest_L82 (f_X8_digest_j107) FU (0 : Int32) σ80_
def f_X8_digest_L33 (k33_80 : ss_M → Option (Int64 × ss_M)) : Nat → Int32 → ss_M → Option (Int64 × ss_M)
  | 0, _, _ => none
  | n33 + 1, x33_1, σ33_ => if (sG σ33_ 17 0) ≤ x33_1 then (k33_80 σ33_) else (if gd x33_1 12 = true then (Option.bind (f_X8_mix (((sA σ33_ 17 0 (x33_1).toNatClampNeg)).toInt64) σ33_) (fun σ8 => if gd x33_1 12 = true then (Option.bind (f_X8_mix (((sA σ8 18 0 (x33_1).toNatClampNeg)).toInt64) σ8) (fun σ10 => if gd x33_1 12 = true then (Option.bind (f_X8_mix (((sA σ10 19 0 (x33_1).toNatClampNeg)).toInt64) σ10) (fun σ12 => (f_X8_digest_L33 k33_80 n33) (x33_1 + (1 : Int32)) σ12)) else none)) else none)) else none)
def f_X8_digest_j31 (σ31_ : ss_M) : Option (Int64 × ss_M) :=
  f_X8_digest_L33 (f_X8_digest_j80) FU (0 : Int32) σ31_
def f_X8_digest_L9 (k9_31 : ss_M → Option (Int64 × ss_M)) : Nat → Int32 → ss_M → Option (Int64 × ss_M)
  | 0, _, _ => none
  | n9 + 1, x9_1, σ9_ => if (8 : Int32) < x9_1 then (k9_31 σ9_) else (ss_bd (f_X8_countOf x9_1 σ9_) (fun r14 σ14 => Option.bind (f_X8_mix ((r14).toInt64) σ14) (fun σ15 => (f_X8_digest_L9 k9_31 n9) (x9_1 + (1 : Int32)) σ15)))
def f_X8_digest (σ : ss_M) : Option (Int64 × ss_M) :=
  f_X8_digest_L9 (f_X8_digest_j31) FU (0 : Int32) (sLu σ 4 (1063 : Int64))
def rm_X8_digest : Room := { frames := 2, cells := 0, slots := 0, locals := 100 }
theorem hd_X8_digest : yX8_digest.cls = RX8 ∧ yX8_digest.cls ≠ "java/lang/invoke/MethodHandle" ∧ yX8_digest.cls ≠ "java/lang/invoke/VarHandle" ∧ (parseMethodDescriptor yX8_digest.desc).map (fun d => d.parameters.length) = some 0 := by decide +kernel
set_option maxHeartbeats 4000000 in
set_option maxRecDepth 100000 in
theorem c_X8_digest (l : Launch) {D : va_G} {Y : Nat → ClassId} {A : ss_A} (hAD : AD 1 A)   {r : Int64} {σ σ' : ss_M} (hf : f_X8_digest σ = some (r, σ')) : Met l yX8_digest wsX8_digest rm_X8_digest (Pc0 1 D Y A σ [.ref (A 0 7 0)]) (Ql0 1 D Y A r σ') 0 0 (FA 1 A) := by
  rw [f_X8_digest] at hf
  refine Met0 (cc := cX8_digest) (maxL := 2) (ret := (some .long)) (own := RX8) (by decide +kernel) rfl hAD rfl (Nat.le_of_ble_eq_true rfl) ?_
  intro p e s m args below meth c S hr hlocks hW ls hl
  obtain ⟨hx, hb, hml, hown, hts⟩ := id S
  have iX8 : ∀ q ∈ wsX80, q ∈ wsX8_digest := fun q h => List.mem_cons_of_mem _ (List.mem_append_right _ (h))
  have hl : lv_has ls 2 [(0, .ref (A 0 7 0))] := hl
  refine lv_aload_n hx hb dX8_digest_0 rfl (lv_at hl 0 rfl) ?_
  refine lv_ldc2 hx hb hown (hts _ (List.mem_of_getElem? (i := 1) rfl)) dX8_digest_1 ?_
  refine pf_X8_h0 hx hb hts hown hW (kS_in (by decide)) iX8 (List.mem_of_getElem? (i := 2) rfl) dX8_digest_4 (fun H locs hW => ?_)
  refine lv_iconst (v := (0 : Int32)) hx hb dX8_digest_7 (by decide) ?_
  refine lv_istore_n (lv' := [(1, .int (0 : Int32)), (0, .ref (A 0 7 0))]) hx hb dX8_digest_8 rfl hl (by decide) rfl (fun ls hl => ?_)
  have J31 : ∀ (σ31_ : ss_M) (H : Heap) (locs : List Loc) (ls : Array Slot), sW 1 D Y A σ31_ s s.heap H locs → lv_has ls 2 [(0, .ref (A 0 7 0))] → f_X8_digest_j31 σ31_ = some (r, σ') → W p l e rm_X8_digest s m args below meth c H locs 0 0 (MQ below (Ql0 1 D Y A r σ') args s 0 0 (FA 1 A)) (F0 m 31 ls []) := by
    intro σ31_ H locs ls hW hl hf
    rw [f_X8_digest_j31] at hf
    refine lv_iconst (v := (0 : Int32)) hx hb dX8_digest_31 (by decide) ?_
    refine lv_istore_n (lv' := [(1, .int (0 : Int32)), (0, .ref (A 0 7 0))]) hx hb dX8_digest_32 rfl hl (by decide) rfl (fun ls hl => ?_)
    have J80 : ∀ (σ80_ : ss_M) (H : Heap) (locs : List Loc) (ls : Array Slot), sW 1 D Y A σ80_ s s.heap H locs → lv_has ls 2 [(0, .ref (A 0 7 0))] → f_X8_digest_j80 σ80_ = some (r, σ') → W p l e rm_X8_digest s m args below meth c H locs 0 0 (MQ below (Ql0 1 D Y A r σ') args s 0 0 (FA 1 A)) (F0 m 80 ls []) := by
      intro σ80_ H locs ls hW hl hf
      rw [f_X8_digest_j80] at hf
      refine lv_iconst (v := (0 : Int32)) hx hb dX8_digest_80 (by decide) ?_
      refine lv_istore_n (lv' := [(1, .int (0 : Int32)), (0, .ref (A 0 7 0))]) hx hb dX8_digest_81 rfl hl (by decide) rfl (fun ls hl => ?_)
      have J107 : ∀ (σ107_ : ss_M) (H : Heap) (locs : List Loc) (ls : Array Slot), sW 1 D Y A σ107_ s s.heap H locs → lv_has ls 2 [(0, .ref (A 0 7 0))] → f_X8_digest_j107 σ107_ = some (r, σ') → W p l e rm_X8_digest s m args below meth c H locs 0 0 (MQ below (Ql0 1 D Y A r σ') args s 0 0 (FA 1 A)) (F0 m 107 ls []) := by
        intro σ107_ H locs ls hW hl hf
        rw [f_X8_digest_j107] at hf
        refine lv_aload_n hx hb dX8_digest_107 rfl (lv_at hl 0 rfl) ?_
        refine lv_aload_n hx hb dX8_digest_108 rfl (lv_at hl 0 rfl) ?_
        refine gf_X8_above hx hb hts hown hW (kS_in (by decide)) iX8 (List.mem_of_getElem? (i := 9) rfl) dX8_digest_109 ?_
        obtain ⟨σ1, hf1, hf⟩ := ss_bind hf
        refine rv_v S (c_X8_mix l hAD  hf1) (cwV 1 hts gX8_digest_X8_mix rfl rfl rfl hd_X8_mix ⟨(Nat.le_of_ble_eq_true rfl), (Nat.le_of_ble_eq_true rfl)⟩) hW (kS_in (by decide)) rfl rfl rfl hl.1 (Nat.le_of_ble_eq_true rfl) ⟨Nat.zero_le _, Nat.zero_le _⟩ dX8_digest_112 (fun H locs hW => ?_)
        refine lv_aload_n hx hb dX8_digest_115 rfl (lv_at hl 0 rfl) ?_
        refine lv_aload_n hx hb dX8_digest_116 rfl (lv_at hl 0 rfl) ?_
        refine gf_X8_below hx hb hts hown hW (kS_in (by decide)) iX8 (List.mem_of_getElem? (i := 10) rfl) dX8_digest_117 ?_
        obtain ⟨σ2, hf2, hf⟩ := ss_bind hf
        refine rv_v S (c_X8_mix l hAD  hf2) (cwV 1 hts gX8_digest_X8_mix rfl rfl rfl hd_X8_mix ⟨(Nat.le_of_ble_eq_true rfl), (Nat.le_of_ble_eq_true rfl)⟩) hW (kS_in (by decide)) rfl rfl rfl hl.1 (Nat.le_of_ble_eq_true rfl) ⟨Nat.zero_le _, Nat.zero_le _⟩ dX8_digest_120 (fun H locs hW => ?_)
        refine lv_aload_n hx hb dX8_digest_123 rfl (lv_at hl 0 rfl) ?_
        refine gf_X8_h0 hx hb hts hown hW (kS_in (by decide)) iX8 (List.mem_of_getElem? (i := 2) rfl) dX8_digest_124 ?_
        exact re_l hx hb hr hlocks hW (Option.some.inj hf) dX8_digest_127
      have L82 : ∀ (n82 : Nat), ∀ (x82_1 : Int32) (σ82_ : ss_M) (H : Heap) (locs : List Loc) (ls : Array Slot), sW 1 D Y A σ82_ s s.heap H locs → lv_has ls 2 [(0, .ref (A 0 7 0)), (1, .int x82_1)] → f_X8_digest_L82 (f_X8_digest_j107) n82 x82_1 σ82_ = some (r, σ') → W p l e rm_X8_digest s m args below meth c H locs 0 0 (MQ below (Ql0 1 D Y A r σ') args s 0 0 (FA 1 A)) (F0 m 82 ls []) := by
        intro n82
        induction n82 with
        | zero =>
          intro x82_1 σ82_ H locs ls hW hl hf
          rw [f_X8_digest_L82] at hf
          cases hf
        | succ n82 ih82 =>
          intro x82_1 σ82_ H locs ls hW hl hf
          rw [f_X8_digest_L82] at hf
          refine lv_iload_n hx hb dX8_digest_82 rfl (lv_at hl 1 rfl) ?_
          refine lv_aload_n hx hb dX8_digest_83 rfl (lv_at hl 0 rfl) ?_
          refine gf_X8_heardMany hx hb hts hown hW (kS_in (by decide)) iX8 (List.mem_of_getElem? (i := 7) rfl) dX8_digest_84 ?_
          refine lv_icmp_ge (tgt := 107) hx hb dX8_digest_87 (by decide) (fun q3 => ?_) (fun q3 => ?_)
          · rw [if_pos q3] at hf
            exact J107 σ82_ _ _ _ hW (lv_sub hl [0] rfl) hf
          · rw [if_neg q3] at hf
            refine lv_aload_n hx hb dX8_digest_90 rfl (lv_at hl 0 rfl) ?_
            refine lv_aload_n hx hb dX8_digest_91 rfl (lv_at hl 0 rfl) ?_
            refine gf_X8_heards hx hb hts hown hW (kS_in (by decide)) iX8 (List.mem_of_getElem? (i := 8) rfl) dX8_digest_92 ?_
            refine lv_iload_n hx hb dX8_digest_95 rfl (lv_at hl 1 rfl) ?_
            obtain ⟨g4, hf⟩ := ss_if hf
            refine ra_i hx hb hW (kS_in (by decide)) g4 dX8_digest_96 ?_
            refine lv_i2l hx hb dX8_digest_97 rfl ?_
            obtain ⟨σ5, hf5, hf⟩ := ss_bind hf
            refine rv_v S (c_X8_mix l hAD  hf5) (cwV 1 hts gX8_digest_X8_mix rfl rfl rfl hd_X8_mix ⟨(Nat.le_of_ble_eq_true rfl), (Nat.le_of_ble_eq_true rfl)⟩) hW (kS_in (by decide)) rfl rfl rfl hl.1 (Nat.le_of_ble_eq_true rfl) ⟨Nat.zero_le _, Nat.zero_le _⟩ dX8_digest_98 (fun H locs hW => ?_)
            refine lv_iinc (v := (x82_1 + (1 : Int32))) (lv' := [(1, .int (x82_1 + (1 : Int32))), (0, .ref (A 0 7 0))]) hx hb dX8_digest_101 hl (k := 1) rfl rfl (by decide) rfl (fun ls hl => ?_)
            refine lv_goto (tgt := 82) hx hb dX8_digest_104 (by decide) ?_
            exact ih82 (x82_1 + (1 : Int32)) σ5 _ _ _ hW (lv_sub hl [1, 0] rfl) hf
      exact L82 FU (0 : Int32) σ80_ _ _ _ hW (lv_sub hl [1, 0] rfl) hf
    have L33 : ∀ (n33 : Nat), ∀ (x33_1 : Int32) (σ33_ : ss_M) (H : Heap) (locs : List Loc) (ls : Array Slot), sW 1 D Y A σ33_ s s.heap H locs → lv_has ls 2 [(0, .ref (A 0 7 0)), (1, .int x33_1)] → f_X8_digest_L33 (f_X8_digest_j80) n33 x33_1 σ33_ = some (r, σ') → W p l e rm_X8_digest s m args below meth c H locs 0 0 (MQ below (Ql0 1 D Y A r σ') args s 0 0 (FA 1 A)) (F0 m 33 ls []) := by
      intro n33
      induction n33 with
      | zero =>
        intro x33_1 σ33_ H locs ls hW hl hf
        rw [f_X8_digest_L33] at hf
        cases hf
      | succ n33 ih33 =>
        intro x33_1 σ33_ H locs ls hW hl hf
        rw [f_X8_digest_L33] at hf
        refine lv_iload_n hx hb dX8_digest_33 rfl (lv_at hl 1 rfl) ?_
        refine lv_aload_n hx hb dX8_digest_34 rfl (lv_at hl 0 rfl) ?_
        refine gf_X8_many hx hb hts hown hW (kS_in (by decide)) iX8 (List.mem_of_getElem? (i := 3) rfl) dX8_digest_35 ?_
        refine lv_icmp_ge (tgt := 80) hx hb dX8_digest_38 (by decide) (fun q6 => ?_) (fun q6 => ?_)
        · rw [if_pos q6] at hf
          exact J80 σ33_ _ _ _ hW (lv_sub hl [0] rfl) hf
        · rw [if_neg q6] at hf
          refine lv_aload_n hx hb dX8_digest_41 rfl (lv_at hl 0 rfl) ?_
          refine lv_aload_n hx hb dX8_digest_42 rfl (lv_at hl 0 rfl) ?_
          refine gf_X8_lengths hx hb hts hown hW (kS_in (by decide)) iX8 (List.mem_of_getElem? (i := 4) rfl) dX8_digest_43 ?_
          refine lv_iload_n hx hb dX8_digest_46 rfl (lv_at hl 1 rfl) ?_
          obtain ⟨g7, hf⟩ := ss_if hf
          refine ra_i hx hb hW (kS_in (by decide)) g7 dX8_digest_47 ?_
          refine lv_i2l hx hb dX8_digest_48 rfl ?_
          obtain ⟨σ8, hf8, hf⟩ := ss_bind hf
          refine rv_v S (c_X8_mix l hAD  hf8) (cwV 1 hts gX8_digest_X8_mix rfl rfl rfl hd_X8_mix ⟨(Nat.le_of_ble_eq_true rfl), (Nat.le_of_ble_eq_true rfl)⟩) hW (kS_in (by decide)) rfl rfl rfl hl.1 (Nat.le_of_ble_eq_true rfl) ⟨Nat.zero_le _, Nat.zero_le _⟩ dX8_digest_49 (fun H locs hW => ?_)
          refine lv_aload_n hx hb dX8_digest_52 rfl (lv_at hl 0 rfl) ?_
          refine lv_aload_n hx hb dX8_digest_53 rfl (lv_at hl 0 rfl) ?_
          refine gf_X8_kinds hx hb hts hown hW (kS_in (by decide)) iX8 (List.mem_of_getElem? (i := 5) rfl) dX8_digest_54 ?_
          refine lv_iload_n hx hb dX8_digest_57 rfl (lv_at hl 1 rfl) ?_
          obtain ⟨g9, hf⟩ := ss_if hf
          refine ra_i hx hb hW (kS_in (by decide)) g9 dX8_digest_58 ?_
          refine lv_i2l hx hb dX8_digest_59 rfl ?_
          obtain ⟨σ10, hf10, hf⟩ := ss_bind hf
          refine rv_v S (c_X8_mix l hAD  hf10) (cwV 1 hts gX8_digest_X8_mix rfl rfl rfl hd_X8_mix ⟨(Nat.le_of_ble_eq_true rfl), (Nat.le_of_ble_eq_true rfl)⟩) hW (kS_in (by decide)) rfl rfl rfl hl.1 (Nat.le_of_ble_eq_true rfl) ⟨Nat.zero_le _, Nat.zero_le _⟩ dX8_digest_60 (fun H locs hW => ?_)
          refine lv_aload_n hx hb dX8_digest_63 rfl (lv_at hl 0 rfl) ?_
          refine lv_aload_n hx hb dX8_digest_64 rfl (lv_at hl 0 rfl) ?_
          refine gf_X8_reads hx hb hts hown hW (kS_in (by decide)) iX8 (List.mem_of_getElem? (i := 6) rfl) dX8_digest_65 ?_
          refine lv_iload_n hx hb dX8_digest_68 rfl (lv_at hl 1 rfl) ?_
          obtain ⟨g11, hf⟩ := ss_if hf
          refine ra_i hx hb hW (kS_in (by decide)) g11 dX8_digest_69 ?_
          refine lv_i2l hx hb dX8_digest_70 rfl ?_
          obtain ⟨σ12, hf12, hf⟩ := ss_bind hf
          refine rv_v S (c_X8_mix l hAD  hf12) (cwV 1 hts gX8_digest_X8_mix rfl rfl rfl hd_X8_mix ⟨(Nat.le_of_ble_eq_true rfl), (Nat.le_of_ble_eq_true rfl)⟩) hW (kS_in (by decide)) rfl rfl rfl hl.1 (Nat.le_of_ble_eq_true rfl) ⟨Nat.zero_le _, Nat.zero_le _⟩ dX8_digest_71 (fun H locs hW => ?_)
          refine lv_iinc (v := (x33_1 + (1 : Int32))) (lv' := [(1, .int (x33_1 + (1 : Int32))), (0, .ref (A 0 7 0))]) hx hb dX8_digest_74 hl (k := 1) rfl rfl (by decide) rfl (fun ls hl => ?_)
          refine lv_goto (tgt := 33) hx hb dX8_digest_77 (by decide) ?_
          exact ih33 (x33_1 + (1 : Int32)) σ12 _ _ _ hW (lv_sub hl [1, 0] rfl) hf
    exact L33 FU (0 : Int32) σ31_ _ _ _ hW (lv_sub hl [1, 0] rfl) hf
  have L9 : ∀ (n9 : Nat), ∀ (x9_1 : Int32) (σ9_ : ss_M) (H : Heap) (locs : List Loc) (ls : Array Slot), sW 1 D Y A σ9_ s s.heap H locs → lv_has ls 2 [(0, .ref (A 0 7 0)), (1, .int x9_1)] → f_X8_digest_L9 (f_X8_digest_j31) n9 x9_1 σ9_ = some (r, σ') → W p l e rm_X8_digest s m args below meth c H locs 0 0 (MQ below (Ql0 1 D Y A r σ') args s 0 0 (FA 1 A)) (F0 m 9 ls []) := by
    intro n9
    induction n9 with
    | zero =>
      intro x9_1 σ9_ H locs ls hW hl hf
      rw [f_X8_digest_L9] at hf
      cases hf
    | succ n9 ih9 =>
      intro x9_1 σ9_ H locs ls hW hl hf
      rw [f_X8_digest_L9] at hf
      refine lv_iload_n hx hb dX8_digest_9 rfl (lv_at hl 1 rfl) ?_
      refine lv_bipush (v := (8 : Int32)) hx hb dX8_digest_10 (by decide) ?_
      refine lv_icmp_gt (tgt := 31) hx hb dX8_digest_12 (by decide) (fun q13 => ?_) (fun q13 => ?_)
      · rw [if_pos q13] at hf
        exact J31 σ9_ _ _ _ hW (lv_sub hl [0] rfl) hf
      · rw [if_neg q13] at hf
        refine lv_aload_n hx hb dX8_digest_15 rfl (lv_at hl 0 rfl) ?_
        refine lv_aload_n hx hb dX8_digest_16 rfl (lv_at hl 0 rfl) ?_
        refine lv_iload_n hx hb dX8_digest_17 rfl (lv_at hl 1 rfl) ?_
        obtain ⟨r14, σ14, hf14, hf⟩ := ss_bd_some hf
        refine rv_i S (c_X8_countOf l hAD  hf14) (cwV 1 hts gX8_digest_X8_countOf rfl rfl rfl hd_X8_countOf ⟨(Nat.le_of_ble_eq_true rfl), (Nat.le_of_ble_eq_true rfl)⟩) hW (kS_in (by decide)) rfl rfl rfl hl.1 (Nat.le_of_ble_eq_true rfl) ⟨Nat.zero_le _, Nat.zero_le _⟩ dX8_digest_18 (fun H locs hW => ?_)
        refine lv_i2l hx hb dX8_digest_21 rfl ?_
        obtain ⟨σ15, hf15, hf⟩ := ss_bind hf
        refine rv_v S (c_X8_mix l hAD  hf15) (cwV 1 hts gX8_digest_X8_mix rfl rfl rfl hd_X8_mix ⟨(Nat.le_of_ble_eq_true rfl), (Nat.le_of_ble_eq_true rfl)⟩) hW (kS_in (by decide)) rfl rfl rfl hl.1 (Nat.le_of_ble_eq_true rfl) ⟨Nat.zero_le _, Nat.zero_le _⟩ dX8_digest_22 (fun H locs hW => ?_)
        refine lv_iinc (v := (x9_1 + (1 : Int32))) (lv' := [(1, .int (x9_1 + (1 : Int32))), (0, .ref (A 0 7 0))]) hx hb dX8_digest_25 hl (k := 1) rfl rfl (by decide) rfl (fun ls hl => ?_)
        refine lv_goto (tgt := 9) hx hb dX8_digest_28 (by decide) ?_
        exact ih9 (x9_1 + (1 : Int32)) σ15 _ _ _ hW (lv_sub hl [1, 0] rfl) hf
  exact L9 FU (0 : Int32) (sLu σ 4 (1063 : Int64)) _ _ _ hW (lv_sub hl [1, 0] rfl) hf
