def f_X1_breathBehind (p0 : Int32) (p1 : Int32) (p2 : Int32) (σ : ss_M) : Option (Int32 × ss_M) :=
  if p0 = (0 : Int32) then (some ((if p2 < (p1 + (3 : Int32)) then p2 else (p1 + (3 : Int32))), σ)) else if p0 = (1 : Int32) then (some (p2, σ)) else if p0 = (2 : Int32) then (some (p2, σ)) else if p0 = (3 : Int32) then (some (p2, σ)) else if p0 = (4 : Int32) then (some ((if p2 < ((if p2 < (p1 + (3 : Int32)) then p2 else (p1 + (3 : Int32))) + (3 : Int32)) then p2 else ((if p2 < (p1 + (3 : Int32)) then p2 else (p1 + (3 : Int32))) + (3 : Int32))), σ)) else if p0 = (5 : Int32) then (some ((if (if p2 < ((if p2 < (p1 + (3 : Int32)) then p2 else (p1 + (3 : Int32))) + (3 : Int32)) then p2 else ((if p2 < (p1 + (3 : Int32)) then p2 else (p1 + (3 : Int32))) + (3 : Int32))) < (p2 / (2 : Int32)) then (p2 / (2 : Int32)) else (if p2 < ((if p2 < (p1 + (3 : Int32)) then p2 else (p1 + (3 : Int32))) + (3 : Int32)) then p2 else ((if p2 < (p1 + (3 : Int32)) then p2 else (p1 + (3 : Int32))) + (3 : Int32)))), σ)) else (some (p1, σ))
def rm_X1_breathBehind : Room := { frames := 2, cells := 0, slots := 0, locals := 100 }
theorem hd_X1_breathBehind : yX1_breathBehind.cls ≠ "java/lang/invoke/MethodHandle" ∧ yX1_breathBehind.cls ≠ "java/lang/invoke/VarHandle" ∧ (parseMethodDescriptor yX1_breathBehind.desc).map (fun d => d.parameters.length) = some 3 := by decide +kernel
set_option maxHeartbeats 4000000 in
set_option maxRecDepth 100000 in
theorem c_X1_breathBehind (l : Launch) {D : va_G} {Y : Nat → ClassId} {A : ss_A} (hAD : AD 0 A) {p0 : Int32} {p1 : Int32} {p2 : Int32}  {r : Int32} {σ σ' : ss_M} (hf : f_X1_breathBehind p0 p1 p2 σ = some (r, σ')) : Met l yX1_breathBehind wsX1_breathBehind rm_X1_breathBehind (Pc0 0 D Y A σ [.int p0, .int p1, .int p2]) (Qi0 0 D Y A r σ') 0 0 (FA 0 A) := by
  rw [f_X1_breathBehind] at hf
  refine Met0 (cc := cX1_breathBehind) (maxL := 5) (ret := (some .int)) (own := RX1) (by decide +kernel) rfl hAD rfl (Nat.le_of_ble_eq_true rfl) ?_
  intro p e s m args below meth c S hr hlocks hW ls hl
  obtain ⟨hx, hb, hml, hown, hts⟩ := id S
  have hl : lv_has ls 5 [(0, .int p0), (1, .int p1), (2, .int p2)] := hl
  refine lv_iload_n hx hb dX1_breathBehind_0 rfl (lv_at hl 1 rfl) ?_
  refine lv_iconst (v := (3 : Int32)) hx hb dX1_breathBehind_1 (by decide) ?_
  refine lv_iadd hx hb dX1_breathBehind_2 ?_
  refine lv_iload_n hx hb dX1_breathBehind_3 rfl (lv_at hl 2 rfl) ?_
  refine va_mmin hx hb (hml.trans hl.1.symm) hown (hts _ (List.mem_of_getElem? (i := 1) rfl)) (hts _ (List.mem_of_getElem? (i := 2) rfl)) (hts _ (List.mem_of_getElem? (i := 3) rfl)) (hts _ (List.mem_of_getElem? (i := 4) rfl)) (Nat.le_of_ble_eq_true rfl) (Nat.le_of_ble_eq_true rfl) (Nat.zero_le _) (Nat.zero_le _) dX1_breathBehind_4 ?_
  refine lv_istore_n (lv' := [(3, .int (if p2 < (p1 + (3 : Int32)) then p2 else (p1 + (3 : Int32)))), (0, .int p0), (1, .int p1), (2, .int p2)]) hx hb dX1_breathBehind_7 rfl hl (by decide) rfl (fun ls hl => ?_)
  refine lv_iload_n hx hb dX1_breathBehind_8 rfl (lv_at hl 0 rfl) ?_
  refine lv_iconst (v := (3 : Int32)) hx hb dX1_breathBehind_9 (by decide) ?_
  refine lv_iadd hx hb dX1_breathBehind_10 ?_
  refine lv_iload_n hx hb dX1_breathBehind_11 rfl (lv_at hl 3 rfl) ?_
  refine va_mmin hx hb (hml.trans hl.1.symm) hown (hts _ (List.mem_of_getElem? (i := 1) rfl)) (hts _ (List.mem_of_getElem? (i := 2) rfl)) (hts _ (List.mem_of_getElem? (i := 3) rfl)) (hts _ (List.mem_of_getElem? (i := 4) rfl)) (Nat.le_of_ble_eq_true rfl) (Nat.le_of_ble_eq_true rfl) (Nat.zero_le _) (Nat.zero_le _) dX1_breathBehind_12 ?_
  refine lv_istore (lv' := [(4, .int (if p2 < ((if p2 < (p1 + (3 : Int32)) then p2 else (p1 + (3 : Int32))) + (3 : Int32)) then p2 else ((if p2 < (p1 + (3 : Int32)) then p2 else (p1 + (3 : Int32))) + (3 : Int32)))), (3, .int (if p2 < (p1 + (3 : Int32)) then p2 else (p1 + (3 : Int32)))), (0, .int p0), (1, .int p1), (2, .int p2)]) hx hb dX1_breathBehind_15 hl (by decide) rfl (fun ls hl => ?_)
  refine lv_iload_n hx hb dX1_breathBehind_17 rfl (lv_at hl 2 rfl) ?_
  by_cases q1 : p0 = (0 : Int32)
  · rw [if_pos q1] at hf
    refine lv_tableIn (off := 38) (tgt := 56) hx hb dX1_breathBehind_18 (by rw [q1]; decide) (by rw [q1]; decide) (by rw [q1]; decide) (by decide) ?_
    refine lv_iload_n hx hb dX1_breathBehind_56 rfl (lv_at hl 1 rfl) ?_
    exact re_i hx hb hr hlocks hW (Option.some.inj hf) dX1_breathBehind_57
  · rw [if_neg q1] at hf
    by_cases q2 : p0 = (1 : Int32)
    · rw [if_pos q2] at hf
      refine lv_tableIn (off := 40) (tgt := 58) hx hb dX1_breathBehind_18 (by rw [q2]; decide) (by rw [q2]; decide) (by rw [q2]; decide) (by decide) ?_
      refine lv_iload_n hx hb dX1_breathBehind_58 rfl (lv_at hl 4 rfl) ?_
      exact re_i hx hb hr hlocks hW (Option.some.inj hf) dX1_breathBehind_59
    · rw [if_neg q2] at hf
      by_cases q3 : p0 = (2 : Int32)
      · rw [if_pos q3] at hf
        refine lv_tableIn (off := 40) (tgt := 58) hx hb dX1_breathBehind_18 (by rw [q3]; decide) (by rw [q3]; decide) (by rw [q3]; decide) (by decide) ?_
        refine lv_iload_n hx hb dX1_breathBehind_58 rfl (lv_at hl 4 rfl) ?_
        exact re_i hx hb hr hlocks hW (Option.some.inj hf) dX1_breathBehind_59
      · rw [if_neg q3] at hf
        by_cases q4 : p0 = (3 : Int32)
        · rw [if_pos q4] at hf
          refine lv_tableIn (off := 40) (tgt := 58) hx hb dX1_breathBehind_18 (by rw [q4]; decide) (by rw [q4]; decide) (by rw [q4]; decide) (by decide) ?_
          refine lv_iload_n hx hb dX1_breathBehind_58 rfl (lv_at hl 4 rfl) ?_
          exact re_i hx hb hr hlocks hW (Option.some.inj hf) dX1_breathBehind_59
        · rw [if_neg q4] at hf
          by_cases q5 : p0 = (4 : Int32)
          · rw [if_pos q5] at hf
            refine lv_tableIn (off := 42) (tgt := 60) hx hb dX1_breathBehind_18 (by rw [q5]; decide) (by rw [q5]; decide) (by rw [q5]; decide) (by decide) ?_
            refine lv_iload hx hb dX1_breathBehind_60 (lv_at hl 0 rfl) ?_
            exact re_i hx hb hr hlocks hW (Option.some.inj hf) dX1_breathBehind_62
          · rw [if_neg q5] at hf
            by_cases q6 : p0 = (5 : Int32)
            · rw [if_pos q6] at hf
              refine lv_tableIn (off := 45) (tgt := 63) hx hb dX1_breathBehind_18 (by rw [q6]; decide) (by rw [q6]; decide) (by rw [q6]; decide) (by decide) ?_
              refine lv_iload hx hb dX1_breathBehind_63 (lv_at hl 0 rfl) ?_
              refine lv_iload_n hx hb dX1_breathBehind_65 rfl (lv_at hl 4 rfl) ?_
              refine lv_iconst (v := (2 : Int32)) hx hb dX1_breathBehind_66 (by decide) ?_
              refine lv_idiv hx hb dX1_breathBehind_67 (by decide) ?_
              refine va_mmax hx hb (hml.trans hl.1.symm) hown (hts _ (List.mem_of_getElem? (i := 5) rfl)) (hts _ (List.mem_of_getElem? (i := 6) rfl)) (hts _ (List.mem_of_getElem? (i := 3) rfl)) (hts _ (List.mem_of_getElem? (i := 7) rfl)) (Nat.le_of_ble_eq_true rfl) (Nat.le_of_ble_eq_true rfl) (Nat.zero_le _) (Nat.zero_le _) dX1_breathBehind_68 ?_
              exact re_i hx hb hr hlocks hW (Option.some.inj hf) dX1_breathBehind_71
            · rw [if_neg q6] at hf
              refine lv_tableOut (tgt := 72) hx hb dX1_breathBehind_18 (by have z := And.intro (lv_neT q1 (a := 0) rfl) (And.intro (lv_neT q2 (a := 1) rfl) (And.intro (lv_neT q3 (a := 2) rfl) (And.intro (lv_neT q4 (a := 3) rfl) (And.intro (lv_neT q5 (a := 4) rfl) (lv_neT q6 (a := 5) rfl))))); omega) (by decide) ?_
              refine lv_iload_n hx hb dX1_breathBehind_72 rfl (lv_at hl 3 rfl) ?_
              exact re_i hx hb hr hlocks hW (Option.some.inj hf) dX1_breathBehind_73
def f_X1_isOne (p0 : Int32) (σ : ss_M) : Option (Int32 × ss_M) :=
  if p0 < (0 : Int32) then (some ((0 : Int32), σ)) else (if (5 : Int32) < p0 then (some ((0 : Int32), σ)) else (some ((1 : Int32), σ)))
def rm_X1_isOne : Room := { frames := 0, cells := 0, slots := 0, locals := 0 }
theorem hd_X1_isOne : yX1_isOne.cls ≠ "java/lang/invoke/MethodHandle" ∧ yX1_isOne.cls ≠ "java/lang/invoke/VarHandle" ∧ (parseMethodDescriptor yX1_isOne.desc).map (fun d => d.parameters.length) = some 1 := by decide +kernel
set_option maxHeartbeats 4000000 in
set_option maxRecDepth 100000 in
theorem c_X1_isOne (l : Launch) {D : va_G} {Y : Nat → ClassId} {A : ss_A} (hAD : AD 0 A) {p0 : Int32}  {r : Int32} {σ σ' : ss_M} (hf : f_X1_isOne p0 σ = some (r, σ')) : Met l yX1_isOne wsX1_isOne rm_X1_isOne (Pc0 0 D Y A σ [.int p0]) (Qi0 0 D Y A r σ') 0 0 (FA 0 A) := by
  rw [f_X1_isOne] at hf
  refine Met0 (cc := cX1_isOne) (maxL := 1) (ret := (some .boolean)) (own := RX1) (by decide +kernel) rfl hAD rfl (Nat.le_of_ble_eq_true rfl) ?_
  intro p e s m args below meth c S hr hlocks hW ls hl
  obtain ⟨hx, hb, hml, hown, hts⟩ := id S
  have hl : lv_has ls 1 [(0, .int p0)] := hl
  refine lv_iload_n hx hb dX1_isOne_0 rfl (lv_at hl 0 rfl) ?_
  refine lv_if_lt (tgt := 13) hx hb dX1_isOne_1 (by decide) (fun q1 => ?_) (fun q1 => ?_)
  · rw [if_pos q1] at hf
    refine lv_iconst (v := (0 : Int32)) hx hb dX1_isOne_13 (by decide) ?_
    exact re_z hx hb hr hlocks hW (by decide) (Option.some.inj hf) dX1_isOne_14
  · rw [if_neg q1] at hf
    refine lv_iload_n hx hb dX1_isOne_4 rfl (lv_at hl 0 rfl) ?_
    refine lv_iconst (v := (5 : Int32)) hx hb dX1_isOne_5 (by decide) ?_
    refine lv_icmp_gt (tgt := 13) hx hb dX1_isOne_6 (by decide) (fun q2 => ?_) (fun q2 => ?_)
    · rw [if_pos q2] at hf
      refine lv_iconst (v := (0 : Int32)) hx hb dX1_isOne_13 (by decide) ?_
      exact re_z hx hb hr hlocks hW (by decide) (Option.some.inj hf) dX1_isOne_14
    · rw [if_neg q2] at hf
      refine lv_iconst (v := (1 : Int32)) hx hb dX1_isOne_9 (by decide) ?_
      refine lv_goto (tgt := 14) hx hb dX1_isOne_10 (by decide) ?_
      exact re_z hx hb hr hlocks hW (by decide) (Option.some.inj hf) dX1_isOne_14
def f_X1_cost (p0 : Int32) (p1 : Int32) (p2 : Int32) (σ : ss_M) : Option (Int32 × ss_M) :=
  if p0 = (0 : Int32) then (some (p1, σ)) else if p0 = (1 : Int32) then (some (((3 : Int32) * p1), σ)) else if p0 = (2 : Int32) then (if (p2 - p2 / (2 : Int32) * (2 : Int32)) = (0 : Int32) then (some (((3 : Int32) * p1), σ)) else (some ((((3 : Int32) * p1) - p1), σ))) else if p0 = (3 : Int32) then (some ((((2 : Int32) * ((3 : Int32) * p1)) + (p2 - p2 / (4 : Int32) * (4 : Int32))), σ)) else if p0 = (4 : Int32) then (some ((p1 + (1 : Int32)), σ)) else if p0 = (5 : Int32) then (some (((2 : Int32) * (p1 + (1 : Int32))), σ)) else (some ((0 : Int32), σ))
def rm_X1_cost : Room := { frames := 0, cells := 0, slots := 0, locals := 0 }
theorem hd_X1_cost : yX1_cost.cls ≠ "java/lang/invoke/MethodHandle" ∧ yX1_cost.cls ≠ "java/lang/invoke/VarHandle" ∧ (parseMethodDescriptor yX1_cost.desc).map (fun d => d.parameters.length) = some 3 := by decide +kernel
set_option maxHeartbeats 4000000 in
set_option maxRecDepth 100000 in
theorem c_X1_cost (l : Launch) {D : va_G} {Y : Nat → ClassId} {A : ss_A} (hAD : AD 0 A) {p0 : Int32} {p1 : Int32} {p2 : Int32}  {r : Int32} {σ σ' : ss_M} (hf : f_X1_cost p0 p1 p2 σ = some (r, σ')) : Met l yX1_cost wsX1_cost rm_X1_cost (Pc0 0 D Y A σ [.int p0, .int p1, .int p2]) (Qi0 0 D Y A r σ') 0 0 (FA 0 A) := by
  rw [f_X1_cost] at hf
  refine Met0 (cc := cX1_cost) (maxL := 5) (ret := (some .int)) (own := RX1) (by decide +kernel) rfl hAD rfl (Nat.le_of_ble_eq_true rfl) ?_
  intro p e s m args below meth c S hr hlocks hW ls hl
  obtain ⟨hx, hb, hml, hown, hts⟩ := id S
  have hl : lv_has ls 5 [(0, .int p0), (1, .int p1), (2, .int p2)] := hl
  refine lv_iconst (v := (3 : Int32)) hx hb dX1_cost_0 (by decide) ?_
  refine lv_iload_n hx hb dX1_cost_1 rfl (lv_at hl 1 rfl) ?_
  refine lv_imul hx hb dX1_cost_2 ?_
  refine lv_istore_n (lv' := [(3, .int ((3 : Int32) * p1)), (0, .int p0), (1, .int p1), (2, .int p2)]) hx hb dX1_cost_3 rfl hl (by decide) rfl (fun ls hl => ?_)
  refine lv_iload_n hx hb dX1_cost_4 rfl (lv_at hl 2 rfl) ?_
  refine lv_iconst (v := (1 : Int32)) hx hb dX1_cost_5 (by decide) ?_
  refine lv_iadd hx hb dX1_cost_6 ?_
  refine lv_istore (lv' := [(4, .int (p1 + (1 : Int32))), (3, .int ((3 : Int32) * p1)), (0, .int p0), (1, .int p1), (2, .int p2)]) hx hb dX1_cost_7 hl (by decide) rfl (fun ls hl => ?_)
  refine lv_iload_n hx hb dX1_cost_9 rfl (lv_at hl 2 rfl) ?_
  by_cases q1 : p0 = (0 : Int32)
  · rw [if_pos q1] at hf
    refine lv_tableIn (off := 38) (tgt := 48) hx hb dX1_cost_10 (by rw [q1]; decide) (by rw [q1]; decide) (by rw [q1]; decide) (by decide) ?_
    refine lv_iload_n hx hb dX1_cost_48 rfl (lv_at hl 3 rfl) ?_
    exact re_i hx hb hr hlocks hW (Option.some.inj hf) dX1_cost_49
  · rw [if_neg q1] at hf
    by_cases q2 : p0 = (1 : Int32)
    · rw [if_pos q2] at hf
      refine lv_tableIn (off := 40) (tgt := 50) hx hb dX1_cost_10 (by rw [q2]; decide) (by rw [q2]; decide) (by rw [q2]; decide) (by decide) ?_
      refine lv_iload_n hx hb dX1_cost_50 rfl (lv_at hl 1 rfl) ?_
      exact re_i hx hb hr hlocks hW (Option.some.inj hf) dX1_cost_51
    · rw [if_neg q2] at hf
      by_cases q3 : p0 = (2 : Int32)
      · rw [if_pos q3] at hf
        refine lv_tableIn (off := 42) (tgt := 52) hx hb dX1_cost_10 (by rw [q3]; decide) (by rw [q3]; decide) (by rw [q3]; decide) (by decide) ?_
        refine lv_iload_n hx hb dX1_cost_52 rfl (lv_at hl 4 rfl) ?_
        refine lv_iconst (v := (2 : Int32)) hx hb dX1_cost_53 (by decide) ?_
        refine lv_irem hx hb dX1_cost_54 (by decide) ?_
        refine lv_if_ne (tgt := 62) hx hb dX1_cost_55 (by decide) (fun q4 => ?_) (fun q4 => ?_)
        · rw [if_neg q4] at hf
          refine lv_iload_n hx hb dX1_cost_62 rfl (lv_at hl 1 rfl) ?_
          refine lv_iload_n hx hb dX1_cost_63 rfl (lv_at hl 3 rfl) ?_
          refine lv_isub hx hb dX1_cost_64 ?_
          exact re_i hx hb hr hlocks hW (Option.some.inj hf) dX1_cost_65
        · rw [if_pos q4] at hf
          refine lv_iload_n hx hb dX1_cost_58 rfl (lv_at hl 1 rfl) ?_
          refine lv_goto (tgt := 65) hx hb dX1_cost_59 (by decide) ?_
          exact re_i hx hb hr hlocks hW (Option.some.inj hf) dX1_cost_65
      · rw [if_neg q3] at hf
        by_cases q5 : p0 = (3 : Int32)
        · rw [if_pos q5] at hf
          refine lv_tableIn (off := 56) (tgt := 66) hx hb dX1_cost_10 (by rw [q5]; decide) (by rw [q5]; decide) (by rw [q5]; decide) (by decide) ?_
          refine lv_iconst (v := (2 : Int32)) hx hb dX1_cost_66 (by decide) ?_
          refine lv_iload_n hx hb dX1_cost_67 rfl (lv_at hl 1 rfl) ?_
          refine lv_imul hx hb dX1_cost_68 ?_
          refine lv_iload_n hx hb dX1_cost_69 rfl (lv_at hl 4 rfl) ?_
          refine lv_iconst (v := (4 : Int32)) hx hb dX1_cost_70 (by decide) ?_
          refine lv_irem hx hb dX1_cost_71 (by decide) ?_
          refine lv_iadd hx hb dX1_cost_72 ?_
          exact re_i hx hb hr hlocks hW (Option.some.inj hf) dX1_cost_73
        · rw [if_neg q5] at hf
          by_cases q6 : p0 = (4 : Int32)
          · rw [if_pos q6] at hf
            refine lv_tableIn (off := 64) (tgt := 74) hx hb dX1_cost_10 (by rw [q6]; decide) (by rw [q6]; decide) (by rw [q6]; decide) (by decide) ?_
            refine lv_iload hx hb dX1_cost_74 (lv_at hl 0 rfl) ?_
            exact re_i hx hb hr hlocks hW (Option.some.inj hf) dX1_cost_76
          · rw [if_neg q6] at hf
            by_cases q7 : p0 = (5 : Int32)
            · rw [if_pos q7] at hf
              refine lv_tableIn (off := 67) (tgt := 77) hx hb dX1_cost_10 (by rw [q7]; decide) (by rw [q7]; decide) (by rw [q7]; decide) (by decide) ?_
              refine lv_iconst (v := (2 : Int32)) hx hb dX1_cost_77 (by decide) ?_
              refine lv_iload hx hb dX1_cost_78 (lv_at hl 0 rfl) ?_
              refine lv_imul hx hb dX1_cost_80 ?_
              exact re_i hx hb hr hlocks hW (Option.some.inj hf) dX1_cost_81
            · rw [if_neg q7] at hf
              refine lv_tableOut (tgt := 82) hx hb dX1_cost_10 (by have z := And.intro (lv_neT q1 (a := 0) rfl) (And.intro (lv_neT q2 (a := 1) rfl) (And.intro (lv_neT q3 (a := 2) rfl) (And.intro (lv_neT q5 (a := 3) rfl) (And.intro (lv_neT q6 (a := 4) rfl) (lv_neT q7 (a := 5) rfl))))); omega) (by decide) ?_
              refine lv_iconst (v := (0 : Int32)) hx hb dX1_cost_82 (by decide) ?_
              exact re_i hx hb hr hlocks hW (Option.some.inj hf) dX1_cost_83
def f_X1_lasts (p0 : Int32) (σ : ss_M) : Option (Int32 × ss_M) :=
  if p0 = (0 : Int32) then (some ((9 : Int32), σ)) else if p0 = (1 : Int32) then (some ((0 : Int32), σ)) else if p0 = (2 : Int32) then (some ((4 : Int32), σ)) else if p0 = (3 : Int32) then (some ((0 : Int32), σ)) else if p0 = (4 : Int32) then (some ((5 : Int32), σ)) else if p0 = (5 : Int32) then (some ((5 : Int32), σ)) else (some ((0 : Int32), σ))
def rm_X1_lasts : Room := { frames := 0, cells := 0, slots := 0, locals := 0 }
theorem hd_X1_lasts : yX1_lasts.cls ≠ "java/lang/invoke/MethodHandle" ∧ yX1_lasts.cls ≠ "java/lang/invoke/VarHandle" ∧ (parseMethodDescriptor yX1_lasts.desc).map (fun d => d.parameters.length) = some 1 := by decide +kernel
set_option maxHeartbeats 4000000 in
set_option maxRecDepth 100000 in
theorem c_X1_lasts (l : Launch) {D : va_G} {Y : Nat → ClassId} {A : ss_A} (hAD : AD 0 A) {p0 : Int32}  {r : Int32} {σ σ' : ss_M} (hf : f_X1_lasts p0 σ = some (r, σ')) : Met l yX1_lasts wsX1_lasts rm_X1_lasts (Pc0 0 D Y A σ [.int p0]) (Qi0 0 D Y A r σ') 0 0 (FA 0 A) := by
  rw [f_X1_lasts] at hf
  refine Met0 (cc := cX1_lasts) (maxL := 1) (ret := (some .int)) (own := RX1) (by decide +kernel) rfl hAD rfl (Nat.le_of_ble_eq_true rfl) ?_
  intro p e s m args below meth c S hr hlocks hW ls hl
  obtain ⟨hx, hb, hml, hown, hts⟩ := id S
  have hl : lv_has ls 1 [(0, .int p0)] := hl
  refine lv_iload_n hx hb dX1_lasts_0 rfl (lv_at hl 0 rfl) ?_
  by_cases q1 : p0 = (0 : Int32)
  · rw [if_pos q1] at hf
    refine lv_tableIn (off := 39) (tgt := 40) hx hb dX1_lasts_1 (by rw [q1]; decide) (by rw [q1]; decide) (by rw [q1]; decide) (by decide) ?_
    refine lv_bipush (v := (9 : Int32)) hx hb dX1_lasts_40 (by decide) ?_
    exact re_i hx hb hr hlocks hW (Option.some.inj hf) dX1_lasts_42
  · rw [if_neg q1] at hf
    by_cases q2 : p0 = (1 : Int32)
    · rw [if_pos q2] at hf
      refine lv_tableIn (off := 46) (tgt := 47) hx hb dX1_lasts_1 (by rw [q2]; decide) (by rw [q2]; decide) (by rw [q2]; decide) (by decide) ?_
      refine lv_iconst (v := (0 : Int32)) hx hb dX1_lasts_47 (by decide) ?_
      exact re_i hx hb hr hlocks hW (Option.some.inj hf) dX1_lasts_48
    · rw [if_neg q2] at hf
      by_cases q3 : p0 = (2 : Int32)
      · rw [if_pos q3] at hf
        refine lv_tableIn (off := 42) (tgt := 43) hx hb dX1_lasts_1 (by rw [q3]; decide) (by rw [q3]; decide) (by rw [q3]; decide) (by decide) ?_
        refine lv_iconst (v := (4 : Int32)) hx hb dX1_lasts_43 (by decide) ?_
        exact re_i hx hb hr hlocks hW (Option.some.inj hf) dX1_lasts_44
      · rw [if_neg q3] at hf
        by_cases q4 : p0 = (3 : Int32)
        · rw [if_pos q4] at hf
          refine lv_tableIn (off := 46) (tgt := 47) hx hb dX1_lasts_1 (by rw [q4]; decide) (by rw [q4]; decide) (by rw [q4]; decide) (by decide) ?_
          refine lv_iconst (v := (0 : Int32)) hx hb dX1_lasts_47 (by decide) ?_
          exact re_i hx hb hr hlocks hW (Option.some.inj hf) dX1_lasts_48
        · rw [if_neg q4] at hf
          by_cases q5 : p0 = (4 : Int32)
          · rw [if_pos q5] at hf
            refine lv_tableIn (off := 44) (tgt := 45) hx hb dX1_lasts_1 (by rw [q5]; decide) (by rw [q5]; decide) (by rw [q5]; decide) (by decide) ?_
            refine lv_iconst (v := (5 : Int32)) hx hb dX1_lasts_45 (by decide) ?_
            exact re_i hx hb hr hlocks hW (Option.some.inj hf) dX1_lasts_46
          · rw [if_neg q5] at hf
            by_cases q6 : p0 = (5 : Int32)
            · rw [if_pos q6] at hf
              refine lv_tableIn (off := 44) (tgt := 45) hx hb dX1_lasts_1 (by rw [q6]; decide) (by rw [q6]; decide) (by rw [q6]; decide) (by decide) ?_
              refine lv_iconst (v := (5 : Int32)) hx hb dX1_lasts_45 (by decide) ?_
              exact re_i hx hb hr hlocks hW (Option.some.inj hf) dX1_lasts_46
            · rw [if_neg q6] at hf
              refine lv_tableOut (tgt := 47) hx hb dX1_lasts_1 (by have z := And.intro (lv_neT q1 (a := 0) rfl) (And.intro (lv_neT q2 (a := 1) rfl) (And.intro (lv_neT q3 (a := 2) rfl) (And.intro (lv_neT q4 (a := 3) rfl) (And.intro (lv_neT q5 (a := 4) rfl) (lv_neT q6 (a := 5) rfl))))); omega) (by decide) ?_
              refine lv_iconst (v := (0 : Int32)) hx hb dX1_lasts_47 (by decide) ?_
              exact re_i hx hb hr hlocks hW (Option.some.inj hf) dX1_lasts_48
def f_X1_ends_j20 (σ20_ : ss_M) : Option (Int32 × ss_M) :=
  some ((1 : Int32), σ20_)
def f_X1_ends (p0 : Int32) (σ : ss_M) : Option (Int32 × ss_M) :=
  if p0 = (1 : Int32) then (f_X1_ends_j20 σ) else (if p0 = (2 : Int32) then (f_X1_ends_j20 σ) else (if p0 = (3 : Int32) then (f_X1_ends_j20 σ) else (if p0 = (5 : Int32) then (f_X1_ends_j20 σ) else (some ((0 : Int32), σ)))))
def rm_X1_ends : Room := { frames := 0, cells := 0, slots := 0, locals := 0 }
theorem hd_X1_ends : yX1_ends.cls ≠ "java/lang/invoke/MethodHandle" ∧ yX1_ends.cls ≠ "java/lang/invoke/VarHandle" ∧ (parseMethodDescriptor yX1_ends.desc).map (fun d => d.parameters.length) = some 1 := by decide +kernel
set_option maxHeartbeats 4000000 in
set_option maxRecDepth 100000 in
theorem c_X1_ends (l : Launch) {D : va_G} {Y : Nat → ClassId} {A : ss_A} (hAD : AD 0 A) {p0 : Int32}  {r : Int32} {σ σ' : ss_M} (hf : f_X1_ends p0 σ = some (r, σ')) : Met l yX1_ends wsX1_ends rm_X1_ends (Pc0 0 D Y A σ [.int p0]) (Qi0 0 D Y A r σ') 0 0 (FA 0 A) := by
  rw [f_X1_ends] at hf
  refine Met0 (cc := cX1_ends) (maxL := 1) (ret := (some .boolean)) (own := RX1) (by decide +kernel) rfl hAD rfl (Nat.le_of_ble_eq_true rfl) ?_
  intro p e s m args below meth c S hr hlocks hW ls hl
  obtain ⟨hx, hb, hml, hown, hts⟩ := id S
  have hl : lv_has ls 1 [(0, .int p0)] := hl
  refine lv_iload_n hx hb dX1_ends_0 rfl (lv_at hl 0 rfl) ?_
  refine lv_iconst (v := (1 : Int32)) hx hb dX1_ends_1 (by decide) ?_
  have J20 : ∀ (σ20_ : ss_M) (H : Heap) (locs : List Loc) (ls : Array Slot), sW 0 D Y A σ20_ s s.heap H locs → lv_has ls 1 [] → f_X1_ends_j20 σ20_ = some (r, σ') → W p l e rm_X1_ends s m args below meth c H locs 0 0 (MQ below (Qi0 0 D Y A r σ') args s 0 0 (FA 0 A)) (F0 m 20 ls []) := by
    intro σ20_ H locs ls hW hl hf
    rw [f_X1_ends_j20] at hf
    refine lv_iconst (v := (1 : Int32)) hx hb dX1_ends_20 (by decide) ?_
    refine lv_goto (tgt := 25) hx hb dX1_ends_21 (by decide) ?_
    exact re_z hx hb hr hlocks hW (by decide) (Option.some.inj hf) dX1_ends_25
  refine lv_icmp_eq (tgt := 20) hx hb dX1_ends_2 (by decide) (fun q1 => ?_) (fun q1 => ?_)
  · rw [if_pos q1] at hf
    exact J20 σ _ _ _ hW (lv_sub hl [] rfl) hf
  · rw [if_neg q1] at hf
    refine lv_iload_n hx hb dX1_ends_5 rfl (lv_at hl 0 rfl) ?_
    refine lv_iconst (v := (2 : Int32)) hx hb dX1_ends_6 (by decide) ?_
    refine lv_icmp_eq (tgt := 20) hx hb dX1_ends_7 (by decide) (fun q2 => ?_) (fun q2 => ?_)
    · rw [if_pos q2] at hf
      exact J20 σ _ _ _ hW (lv_sub hl [] rfl) hf
    · rw [if_neg q2] at hf
      refine lv_iload_n hx hb dX1_ends_10 rfl (lv_at hl 0 rfl) ?_
      refine lv_iconst (v := (3 : Int32)) hx hb dX1_ends_11 (by decide) ?_
      refine lv_icmp_eq (tgt := 20) hx hb dX1_ends_12 (by decide) (fun q3 => ?_) (fun q3 => ?_)
      · rw [if_pos q3] at hf
        exact J20 σ _ _ _ hW (lv_sub hl [] rfl) hf
      · rw [if_neg q3] at hf
        refine lv_iload_n hx hb dX1_ends_15 rfl (lv_at hl 0 rfl) ?_
        refine lv_iconst (v := (5 : Int32)) hx hb dX1_ends_16 (by decide) ?_
        refine lv_icmp_ne (tgt := 24) hx hb dX1_ends_17 (by decide) (fun q4 => ?_) (fun q4 => ?_)
        · rw [if_neg q4] at hf
          refine lv_iconst (v := (0 : Int32)) hx hb dX1_ends_24 (by decide) ?_
          exact re_z hx hb hr hlocks hW (by decide) (Option.some.inj hf) dX1_ends_25
        · rw [if_pos q4] at hf
          exact J20 σ _ _ _ hW (lv_sub hl [] rfl) hf
def f_X2_set (o : Nat) (p0 : Int32) (p1 : Int32) (σ : ss_M) : Option ss_M :=
  if gd p0 12 = true then (if gd p0 12 = true then (ss_let (sAu (sAu σ 0 o (upd (sA σ 0 o) (p0).toNatClampNeg p1)) 1 o (upd (sA (sAu σ 0 o (upd (sA σ 0 o) (p0).toNatClampNeg p1)) 1 o) (p0).toNatClampNeg (0 : Int32))) (fun σm3 => some σm3)) else none) else none
def rm_X2_set : Room := { frames := 0, cells := 0, slots := 0, locals := 0 }
theorem hd_X2_set : yX2_set.cls = RX2 ∧ yX2_set.cls ≠ "java/lang/invoke/MethodHandle" ∧ yX2_set.cls ≠ "java/lang/invoke/VarHandle" ∧ (parseMethodDescriptor yX2_set.desc).map (fun d => d.parameters.length) = some 2 := by decide +kernel
set_option maxHeartbeats 4000000 in
set_option maxRecDepth 100000 in
theorem c_X2_set (l : Launch) {D : va_G} {Y : Nat → ClassId} {A : ss_A} (hAD : AD 0 A) {o : Nat} {p0 : Int32} {p1 : Int32} (ho : o < 36) {σ σ' : ss_M} (hf : f_X2_set o p0 p1 σ = some σ') : Met l yX2_set wsX2_set rm_X2_set (Pc0 0 D Y A σ [.ref (A 0 1 o), .int p0, .int p1]) (Qv0 0 D Y A σ') 0 0 (FA 0 A) := by
  rw [f_X2_set] at hf
  refine Met0 (cc := cX2_set) (maxL := 3) (ret := none) (own := RX2) (by decide +kernel) rfl hAD rfl (Nat.le_of_ble_eq_true rfl) ?_
  intro p e s m args below meth c S hr hlocks hW ls hl
  obtain ⟨hx, hb, hml, hown, hts⟩ := id S
  have iX2 : ∀ q ∈ wsX20, q ∈ wsX2_set := fun q h => List.mem_cons_of_mem _ (List.mem_append_right _ (h))
  have hl : lv_has ls 3 [(0, .ref (A 0 1 o)), (1, .int p0), (2, .int p1)] := hl
  refine lv_aload_n hx hb dX2_set_0 rfl (lv_at hl 0 rfl) ?_
  refine gf_X2_kinds hx hb hts hown hW (kS_in ho) iX2 (List.mem_of_getElem? (i := 1) rfl) dX2_set_1 ?_
  refine lv_iload_n hx hb dX2_set_4 rfl (lv_at hl 1 rfl) ?_
  refine lv_iload_n hx hb dX2_set_5 rfl (lv_at hl 2 rfl) ?_
  obtain ⟨g1, hf⟩ := ss_if hf
  refine rs_i hx hb hW (kS_in ho) g1 dX2_set_6 (fun H locs hW => ?_)
  refine lv_aload_n hx hb dX2_set_7 rfl (lv_at hl 0 rfl) ?_
  refine gf_X2_reads hx hb hts hown hW (kS_in ho) iX2 (List.mem_of_getElem? (i := 2) rfl) dX2_set_8 ?_
  refine lv_iload_n hx hb dX2_set_11 rfl (lv_at hl 1 rfl) ?_
  refine lv_iconst (v := (0 : Int32)) hx hb dX2_set_12 (by decide) ?_
  obtain ⟨g2, hf⟩ := ss_if hf
  refine rs_i hx hb hW (kS_in ho) g2 dX2_set_13 (fun H locs hW => ?_)
  obtain ⟨σm3, eσm3, hf⟩ := ss_let_some hf
  rw [← eσm3] at hW
  exact re_v hx hb hr hlocks hW (Option.some.inj hf) dX2_set_14
def f_X2_readOnce (o : Nat) (p0 : Int32) (σ : ss_M) : Option ss_M :=
  if gd p0 12 = true then (if (sA σ 0 o (p0).toNatClampNeg) = (-1 : Int32) then (some σ) else (if gd p0 12 = true then (if gd p0 12 = true then (if gd p0 12 = true then (ss_bd (f_X1_lasts (sA σ 0 o (p0).toNatClampNeg) (sAu σ 1 o (upd (sA σ 1 o) (p0).toNatClampNeg ((sA σ 1 o (p0).toNatClampNeg) + (1 : Int32))))) (fun r6 σ6 => if (sA (sAu σ 1 o (upd (sA σ 1 o) (p0).toNatClampNeg ((sA σ 1 o (p0).toNatClampNeg) + (1 : Int32)))) 1 o (p0).toNatClampNeg) = r6 then (Option.bind (f_X2_set o p0 (-1 : Int32) σ6) (fun σ8 => some σ8)) else (some σ6))) else none) else none) else none)) else none
def rm_X2_readOnce : Room := { frames := 2, cells := 0, slots := 0, locals := 100 }
theorem hd_X2_readOnce : yX2_readOnce.cls = RX2 ∧ yX2_readOnce.cls ≠ "java/lang/invoke/MethodHandle" ∧ yX2_readOnce.cls ≠ "java/lang/invoke/VarHandle" ∧ (parseMethodDescriptor yX2_readOnce.desc).map (fun d => d.parameters.length) = some 1 := by decide +kernel
set_option maxHeartbeats 4000000 in
set_option maxRecDepth 100000 in
theorem c_X2_readOnce (l : Launch) {D : va_G} {Y : Nat → ClassId} {A : ss_A} (hAD : AD 0 A) {o : Nat} {p0 : Int32} (ho : o < 36) {σ σ' : ss_M} (hf : f_X2_readOnce o p0 σ = some σ') : Met l yX2_readOnce wsX2_readOnce rm_X2_readOnce (Pc0 0 D Y A σ [.ref (A 0 1 o), .int p0]) (Qv0 0 D Y A σ') 0 0 (FA 0 A) := by
  rw [f_X2_readOnce] at hf
  refine Met0 (cc := cX2_readOnce) (maxL := 3) (ret := none) (own := RX2) (by decide +kernel) rfl hAD rfl (Nat.le_of_ble_eq_true rfl) ?_
  intro p e s m args below meth c S hr hlocks hW ls hl
  obtain ⟨hx, hb, hml, hown, hts⟩ := id S
  have iX2 : ∀ q ∈ wsX20, q ∈ wsX2_readOnce := fun q h => List.mem_cons_of_mem _ (List.mem_append_right _ (h))
  have hl : lv_has ls 3 [(0, .ref (A 0 1 o)), (1, .int p0)] := hl
  refine lv_aload_n hx hb dX2_readOnce_0 rfl (lv_at hl 0 rfl) ?_
  refine gf_X2_kinds hx hb hts hown hW (kS_in ho) iX2 (List.mem_of_getElem? (i := 1) rfl) dX2_readOnce_1 ?_
  refine lv_iload_n hx hb dX2_readOnce_4 rfl (lv_at hl 1 rfl) ?_
  obtain ⟨g1, hf⟩ := ss_if hf
  refine ra_i hx hb hW (kS_in ho) g1 dX2_readOnce_5 ?_
  refine lv_istore_n (lv' := [(2, .int (sA σ 0 o (p0).toNatClampNeg)), (0, .ref (A 0 1 o)), (1, .int p0)]) hx hb dX2_readOnce_6 rfl hl (by decide) rfl (fun ls hl => ?_)
  refine lv_iload_n hx hb dX2_readOnce_7 rfl (lv_at hl 0 rfl) ?_
  refine lv_iconst (v := (-1 : Int32)) hx hb dX2_readOnce_8 (by decide) ?_
  refine lv_icmp_ne (tgt := 13) hx hb dX2_readOnce_9 (by decide) (fun q2 => ?_) (fun q2 => ?_)
  · rw [if_neg q2] at hf
    refine lv_aload_n hx hb dX2_readOnce_13 rfl (lv_at hl 1 rfl) ?_
    refine gf_X2_reads hx hb hts hown hW (kS_in ho) iX2 (List.mem_of_getElem? (i := 2) rfl) dX2_readOnce_14 ?_
    refine lv_iload_n hx hb dX2_readOnce_17 rfl (lv_at hl 2 rfl) ?_
    refine lv_dup2_11 hx hb dX2_readOnce_18 rfl rfl ?_
    obtain ⟨g3, hf⟩ := ss_if hf
    refine ra_i hx hb hW (kS_in ho) g3 dX2_readOnce_19 ?_
    refine lv_iconst (v := (1 : Int32)) hx hb dX2_readOnce_20 (by decide) ?_
    refine lv_iadd hx hb dX2_readOnce_21 ?_
    obtain ⟨g4, hf⟩ := ss_if hf
    refine rs_i hx hb hW (kS_in ho) g4 dX2_readOnce_22 (fun H locs hW => ?_)
    refine lv_aload_n hx hb dX2_readOnce_23 rfl (lv_at hl 1 rfl) ?_
    refine gf_X2_reads hx hb hts hown hW (kS_in ho) iX2 (List.mem_of_getElem? (i := 2) rfl) dX2_readOnce_24 ?_
    refine lv_iload_n hx hb dX2_readOnce_27 rfl (lv_at hl 2 rfl) ?_
    obtain ⟨g5, hf⟩ := ss_if hf
    refine ra_i hx hb hW (kS_in ho) g5 dX2_readOnce_28 ?_
    refine lv_iload_n hx hb dX2_readOnce_29 rfl (lv_at hl 0 rfl) ?_
    obtain ⟨r6, σ6, hf6, hf⟩ := ss_bd_some hf
    refine rt_i S (c_X1_lasts l hAD  hf6) (va_cwS 1 hts gX2_readOnce_X1_lasts rfl rfl rfl hd_X1_lasts ⟨(Nat.le_of_ble_eq_true rfl), (Nat.le_of_ble_eq_true rfl)⟩) hW rfl rfl hl.1 (Nat.le_of_ble_eq_true rfl) ⟨Nat.zero_le _, Nat.zero_le _⟩ dX2_readOnce_30 (fun H locs hW => ?_)
    refine lv_icmp_ne (tgt := 42) hx hb dX2_readOnce_33 (by decide) (fun q7 => ?_) (fun q7 => ?_)
    · rw [if_neg q7] at hf
      exact re_v hx hb hr hlocks hW (Option.some.inj hf) dX2_readOnce_42
    · rw [if_pos q7] at hf
      refine lv_aload_n hx hb dX2_readOnce_36 rfl (lv_at hl 1 rfl) ?_
      refine lv_iload_n hx hb dX2_readOnce_37 rfl (lv_at hl 2 rfl) ?_
      refine lv_iconst (v := (-1 : Int32)) hx hb dX2_readOnce_38 (by decide) ?_
      obtain ⟨σ8, hf8, hf⟩ := ss_bind hf
      refine rv_v S (c_X2_set l hAD ho hf8) (cwV 2 hts gX2_readOnce_X2_set rfl rfl rfl hd_X2_set ⟨(Nat.le_of_ble_eq_true rfl), (Nat.le_of_ble_eq_true rfl)⟩) hW (kS_in ho) rfl rfl rfl hl.1 (Nat.le_of_ble_eq_true rfl) ⟨Nat.zero_le _, Nat.zero_le _⟩ dX2_readOnce_39 (fun H locs hW => ?_)
      exact re_v hx hb hr hlocks hW (Option.some.inj hf) dX2_readOnce_42
  · rw [if_pos q2] at hf
    exact re_v hx hb hr hlocks hW (Option.some.inj hf) dX2_readOnce_12
def f_X2_copy (o : Nat) (o0 : Nat) (σ : ss_M) : Option ss_M :=
  if gdc (0 : Int32) (0 : Int32) (12 : Int32) 12 12 = true then (ss_let (sAu (sGu (sGu σ 0 o (sG σ 0 o0)) 1 o (sG (sGu σ 0 o (sG σ 0 o0)) 1 o0)) 0 o (va_cpy (sA (sGu (sGu σ 0 o (sG σ 0 o0)) 1 o (sG (sGu σ 0 o (sG σ 0 o0)) 1 o0)) 0 o0) (sA (sGu (sGu σ 0 o (sG σ 0 o0)) 1 o (sG (sGu σ 0 o (sG σ 0 o0)) 1 o0)) 0 o) ((0 : Int32)).toNatClampNeg ((0 : Int32)).toNatClampNeg ((12 : Int32)).toNatClampNeg)) (fun σm2 => if gdc (0 : Int32) (0 : Int32) (12 : Int32) 12 12 = true then (some (sAu σm2 1 o (va_cpy (sA σm2 1 o0) (sA σm2 1 o) ((0 : Int32)).toNatClampNeg ((0 : Int32)).toNatClampNeg ((12 : Int32)).toNatClampNeg))) else none)) else none
def rm_X2_copy : Room := { frames := 2, cells := 0, slots := 0, locals := 100 }
theorem hd_X2_copy : yX2_copy.cls = RX2 ∧ yX2_copy.cls ≠ "java/lang/invoke/MethodHandle" ∧ yX2_copy.cls ≠ "java/lang/invoke/VarHandle" ∧ (parseMethodDescriptor yX2_copy.desc).map (fun d => d.parameters.length) = some 1 := by decide +kernel
set_option maxHeartbeats 4000000 in
set_option maxRecDepth 100000 in
theorem c_X2_copy (l : Launch) {D : va_G} {Y : Nat → ClassId} {A : ss_A} (hAD : AD 0 A) {o : Nat} {o0 : Nat} (ho : o < 36) (ho0 : o0 < 36) {σ σ' : ss_M} (hf : f_X2_copy o o0 σ = some σ') : Met l yX2_copy wsX2_copy rm_X2_copy (Pc0 0 D Y A σ [.ref (A 0 1 o), .ref (A 0 1 o0)]) (Qv0 0 D Y A σ') 0 0 (FA 0 A) := by
  rw [f_X2_copy] at hf
  refine Met0 (cc := cX2_copy) (maxL := 2) (ret := none) (own := RX2) (by decide +kernel) rfl hAD rfl (Nat.le_of_ble_eq_true rfl) ?_
  intro p e s m args below meth c S hr hlocks hW ls hl
  obtain ⟨hx, hb, hml, hown, hts⟩ := id S
  have iX2 : ∀ q ∈ wsX20, q ∈ wsX2_copy := fun q h => List.mem_cons_of_mem _ (List.mem_append_right _ (h))
  have hl : lv_has ls 2 [(0, .ref (A 0 1 o)), (1, .ref (A 0 1 o0))] := hl
  refine lv_aload_n hx hb dX2_copy_0 rfl (lv_at hl 0 rfl) ?_
  refine lv_aload_n hx hb dX2_copy_1 rfl (lv_at hl 1 rfl) ?_
  refine gf_X2_purse hx hb hts hown hW (kS_in ho0) iX2 (List.mem_of_getElem? (i := 1) rfl) dX2_copy_2 ?_
  refine pf_X2_purse hx hb hts hown hW (kS_in ho) iX2 (List.mem_of_getElem? (i := 1) rfl) dX2_copy_5 (fun H locs hW => ?_)
  refine lv_aload_n hx hb dX2_copy_8 rfl (lv_at hl 0 rfl) ?_
  refine lv_aload_n hx hb dX2_copy_9 rfl (lv_at hl 1 rfl) ?_
  refine gf_X2_week hx hb hts hown hW (kS_in ho0) iX2 (List.mem_of_getElem? (i := 2) rfl) dX2_copy_10 ?_
  refine pf_X2_week hx hb hts hown hW (kS_in ho) iX2 (List.mem_of_getElem? (i := 2) rfl) dX2_copy_13 (fun H locs hW => ?_)
  refine lv_aload_n hx hb dX2_copy_16 rfl (lv_at hl 1 rfl) ?_
  refine gf_X2_kinds hx hb hts hown hW (kS_in ho0) iX2 (List.mem_of_getElem? (i := 3) rfl) dX2_copy_17 ?_
  refine lv_iconst (v := (0 : Int32)) hx hb dX2_copy_20 (by decide) ?_
  refine lv_aload_n hx hb dX2_copy_21 rfl (lv_at hl 0 rfl) ?_
  refine gf_X2_kinds hx hb hts hown hW (kS_in ho) iX2 (List.mem_of_getElem? (i := 3) rfl) dX2_copy_22 ?_
  refine lv_iconst (v := (0 : Int32)) hx hb dX2_copy_25 (by decide) ?_
  refine lv_bipush (v := (12 : Int32)) hx hb dX2_copy_26 (by decide) ?_
  obtain ⟨g1, hf⟩ := ss_if hf
  refine rcp hx hb hts hown (hml.trans hl.1.symm) (List.mem_of_getElem? (i := 4) rfl) (List.mem_of_getElem? (i := 5) rfl) (List.mem_of_getElem? (i := 6) rfl) (List.mem_of_getElem? (i := 7) rfl) hW (kS_in ho0) (kS_in ho) g1 (Nat.le_of_ble_eq_true rfl) (Nat.le_of_ble_eq_true rfl) dX2_copy_28 (fun H locs hW => ?_)
  obtain ⟨σm2, eσm2, hf⟩ := ss_let_some hf
  rw [← eσm2] at hW
  refine lv_aload_n hx hb dX2_copy_31 rfl (lv_at hl 1 rfl) ?_
  refine gf_X2_reads hx hb hts hown hW (kS_in ho0) iX2 (List.mem_of_getElem? (i := 8) rfl) dX2_copy_32 ?_
  refine lv_iconst (v := (0 : Int32)) hx hb dX2_copy_35 (by decide) ?_
  refine lv_aload_n hx hb dX2_copy_36 rfl (lv_at hl 0 rfl) ?_
  refine gf_X2_reads hx hb hts hown hW (kS_in ho) iX2 (List.mem_of_getElem? (i := 8) rfl) dX2_copy_37 ?_
  refine lv_iconst (v := (0 : Int32)) hx hb dX2_copy_40 (by decide) ?_
  refine lv_bipush (v := (12 : Int32)) hx hb dX2_copy_41 (by decide) ?_
  obtain ⟨g3, hf⟩ := ss_if hf
  refine rcp hx hb hts hown (hml.trans hl.1.symm) (List.mem_of_getElem? (i := 4) rfl) (List.mem_of_getElem? (i := 5) rfl) (List.mem_of_getElem? (i := 6) rfl) (List.mem_of_getElem? (i := 7) rfl) hW (kS_in ho0) (kS_in ho) g3 (Nat.le_of_ble_eq_true rfl) (Nat.le_of_ble_eq_true rfl) dX2_copy_43 (fun H locs hW => ?_)
  exact re_v hx hb hr hlocks hW (Option.some.inj hf) dX2_copy_46
