/-- a call that is none -/
theorem Cpl.idle {n : Nat} {σ τ : ss_M} (h : Cpl n σ τ) : Cpl (n + 1) σ τ := h.q (QC.rf h.1) QM.rf
/-! THE LAW'S LOOP (laid by wip/gen/law3.py) -/
theorem lw_room7 {L j : Nat} (hL : L ≤ 448) (hj : j ≤ 65) (h : ¬ nI L - 7 < nI (7 * j)) : 7 * j + 7 ≤ L := by
  by_cases q : 7 ≤ L
  · have e : nI L - 7 = nI (L - 7) := by
      have e1 : nI (L - 7) + nI 7 = nI L := by rw [nI_add]; congr 1; omega
      have e2 : (7 : Int32) = nI 7 := by decide
      rw [e2, ← e1, Int32.add_sub_cancel]
    rw [e] at h
    by_cases h2 : 7 * j + 7 ≤ L
    · exact h2
    · exact absurd (nI_lt (a := L - 7) (b := 7 * j) (by omega) (by omega)) h
  · exfalso
    have h3 : nI L - 7 < 0 := by
      have : L = 0 ∨ L = 1 ∨ L = 2 ∨ L = 3 ∨ L = 4 ∨ L = 5 ∨ L = 6 := by omega
      rcases this with rfl | rfl | rfl | rfl | rfl | rfl | rfl <;> decide
    have h4 : (0 : Int32) ≤ nI (7 * j) := nI_pos' (by omega)
    have a1 := i_lt.mp h3
    have a2 := i_le.mp h4
    exact h (i_lt.mpr (by omega))
set_option maxHeartbeats 4000000 in
set_option maxRecDepth 100000 in
theorem law_loop {p : Program} {l : Launch} {e : Env} {s : State} {m : MethodId} {below : List Frame} {meth : Method} {c : Code} {D : va_G} {Y : Nat → ClassId} {A B : ss_A} {b L : Nat} {xs : Nat → Int32} (S : CallFix p m c cL_law 4 s #[Value.ref b] lw_tbl RL) (hr : meth.sig.returnType = ret) (hlocks : meth.locks = false) (C : LC D Y A B s) (hX : va_X b L xs s s.heap) (hbl : b < s.heap.size) (hL : L ≤ 448) : ∀ (n j : Nat), j + n = 65 → ∀ (σ τ : ss_M) (H : Heap) (locs : List Loc) (ls : Array Slot), Cpl j σ τ → LW D Y A B σ τ s H locs → lv_has ls 4 [(0, .ref b), (1, .ref (A 0 6 0)), (2, .ref (B 0 7 0)), (3, .int (nI (7 * j)))] → W p l e room_1 s m #[Value.ref b] below meth c H locs 600000 7302250 (lw_Z below #[Value.ref b] s) (F0 m 18 ls []) := by
  obtain ⟨hx, hb, hml, hown, hts⟩ := id S
  have hbA : ¬ (fun q : Nat => s.heap.size ≤ q) b := Nat.not_le.mpr hbl
  intro n
  induction n with
  | zero =>
    intro j hj σ τ H locs ls hC hW hl
    refine lv_iload_n hx hb dL_law_18 rfl (lv_at hl 3 rfl) ?_
    refine lv_aload_n hx hb dL_law_19 rfl (lv_at hl 0 rfl) ?_
    refine va_slen hx hb hX hbl hbA hW.2.2 dL_law_20 ?_
    refine lv_bipush (v := (7 : Int32)) hx hb dL_law_21 (by decide) ?_
    refine lv_isub hx hb dL_law_23 ?_
    refine lv_icmp_gt (tgt := 1043) hx hb dL_law_24 (by decide) (fun _ => ?_) (fun q => absurd (lw_room7 hL (by omega) q) (by omega))
    refine lv_iconst (v := (1 : Int32)) hx hb dL_law_1043 (by decide) ?_
    refine va_forget (fun q hq => hW.2.2.2.2 q hq) ?_
    exact lw_ret hx hb hr hlocks dL_law_1044
  | succ n ih =>
    intro j hj σ τ H locs ls hC hW hl
    refine lv_iload_n hx hb dL_law_18 rfl (lv_at hl 3 rfl) ?_
    refine lv_aload_n hx hb dL_law_19 rfl (lv_at hl 0 rfl) ?_
    refine va_slen hx hb hX hbl hbA hW.2.2 dL_law_20 ?_
    refine lv_bipush (v := (7 : Int32)) hx hb dL_law_21 (by decide) ?_
    refine lv_isub hx hb dL_law_23 ?_
    refine lv_icmp_gt (tgt := 1043) hx hb dL_law_24 (by decide) (fun _ => ?_) (fun q => ?_)
    · refine lv_iconst (v := (1 : Int32)) hx hb dL_law_1043 (by decide) ?_
      refine va_forget (fun q hq => hW.2.2.2.2 q hq) ?_
      exact lw_ret hx hb hr hlocks dL_law_1044
    have hj7 : 7 * j + 7 ≤ L := lw_room7 hL (by omega) q
    have K : ∀ (σ' τ' : ss_M) (H1 : Heap) (locs1 : List Loc), Cpl (j + 1) σ' τ' → LW D Y A B σ' τ' s H1 locs1 → W p l e room_1 s m #[Value.ref b] below meth c H1 locs1 600000 7302250 (lw_Z below #[Value.ref b] s) (F0 m 1037 ls []) := by
      intro σ' τ' H1 locs1 hC' hW'
      refine lv_iinc (v := nI (7 * (j + 1))) (lv' := [(3, .int (nI (7 * (j + 1)))), (0, .ref b), (1, .ref (A 0 6 0)), (2, .ref (B 0 7 0))]) hx hb dL_law_1037 hl (k := 3) rfl (by rw [show Int32.ofInt 7 = nI 7 by decide, nI_add]; rfl) (by decide) rfl (fun ls hl => ?_)
      refine lv_goto (tgt := 18) hx hb dL_law_1040 (by decide) ?_
      exact ih (j + 1) (by omega) σ' τ' H1 locs1 ls hC' hW' (lv_sub hl [1, 2, 3, 0] rfl)
    refine lv_aload_n hx hb dL_law_27 rfl (lv_at hl 0 rfl) ?_
    refine lv_iload_n hx hb dL_law_28 rfl (lv_at hl 3 rfl) ?_
    refine va_sld hx hb hX hbl hbA hW.2.2 (lw_in0 hj7 hL) dL_law_29 ?_
    refine lv_bipush (v := (63 : Int32)) hx hb dL_law_30 (by decide) ?_
    refine lv_iand hx hb dL_law_32 ?_
    refine lv_topi (fun x _ => ?_)
    by_cases q0 : x = (0 : Int32)
    · refine lv_tableIn (off := 155) (tgt := 188) hx hb dL_law_33 (by rw [q0]; decide) (by rw [q0]; decide) (by rw [q0]; decide) (by decide) ?_
      exact lw_c0 S C hX hbl hL hj7 hC hW hl K
    by_cases q1 : x = (1 : Int32)
    · refine lv_tableIn (off := 188) (tgt := 221) hx hb dL_law_33 (by rw [q1]; decide) (by rw [q1]; decide) (by rw [q1]; decide) (by decide) ?_
      exact lw_c1 S C hX hbl hL hj7 hC hW hl K
    by_cases q2 : x = (2 : Int32)
    · refine lv_tableIn (off := 211) (tgt := 244) hx hb dL_law_33 (by rw [q2]; decide) (by rw [q2]; decide) (by rw [q2]; decide) (by decide) ?_
      exact lw_c2 S C hX hbl hL hj7 hC hW hl K
    by_cases q3 : x = (3 : Int32)
    · refine lv_tableIn (off := 234) (tgt := 267) hx hb dL_law_33 (by rw [q3]; decide) (by rw [q3]; decide) (by rw [q3]; decide) (by decide) ?_
      exact lw_c3 S C hX hbl hL hj7 hC hW hl K
    by_cases q4 : x = (4 : Int32)
    · refine lv_tableIn (off := 257) (tgt := 290) hx hb dL_law_33 (by rw [q4]; decide) (by rw [q4]; decide) (by rw [q4]; decide) (by decide) ?_
      exact lw_c4 S C hX hbl hL hj7 hC hW hl K
    by_cases q5 : x = (5 : Int32)
    · refine lv_tableIn (off := 280) (tgt := 313) hx hb dL_law_33 (by rw [q5]; decide) (by rw [q5]; decide) (by rw [q5]; decide) (by decide) ?_
      exact lw_c5 S C hX hbl hL hj7 hC hW hl K
    by_cases q6 : x = (6 : Int32)
    · refine lv_tableIn (off := 313) (tgt := 346) hx hb dL_law_33 (by rw [q6]; decide) (by rw [q6]; decide) (by rw [q6]; decide) (by decide) ?_
      exact lw_c6 S C hX hbl hL hj7 hC hW hl K
    by_cases q7 : x = (7 : Int32)
    · refine lv_tableIn (off := 336) (tgt := 369) hx hb dL_law_33 (by rw [q7]; decide) (by rw [q7]; decide) (by rw [q7]; decide) (by decide) ?_
      exact lw_c7 S C hX hbl hL hj7 hC hW hl K
    by_cases q8 : x = (8 : Int32)
    · refine lv_tableIn (off := 349) (tgt := 382) hx hb dL_law_33 (by rw [q8]; decide) (by rw [q8]; decide) (by rw [q8]; decide) (by decide) ?_
      exact lw_c8 S C hX hbl hL hj7 hC hW hl K
    by_cases q9 : x = (9 : Int32)
    · refine lv_tableIn (off := 362) (tgt := 395) hx hb dL_law_33 (by rw [q9]; decide) (by rw [q9]; decide) (by rw [q9]; decide) (by decide) ?_
      exact lw_c9 S C hX hbl hL hj7 hC hW hl K
    by_cases q10 : x = (10 : Int32)
    · refine lv_tableIn (off := 395) (tgt := 428) hx hb dL_law_33 (by rw [q10]; decide) (by rw [q10]; decide) (by rw [q10]; decide) (by decide) ?_
      exact lw_c10 S C hX hbl hL hj7 hC hW hl K
    by_cases q11 : x = (11 : Int32)
    · refine lv_tableIn (off := 418) (tgt := 451) hx hb dL_law_33 (by rw [q11]; decide) (by rw [q11]; decide) (by rw [q11]; decide) (by decide) ?_
      exact lw_c11 S C hX hbl hL hj7 hC hW hl K
    by_cases q12 : x = (12 : Int32)
    · refine lv_tableIn (off := 431) (tgt := 464) hx hb dL_law_33 (by rw [q12]; decide) (by rw [q12]; decide) (by rw [q12]; decide) (by decide) ?_
      exact lw_c12 S C hX hbl hL hj7 hC hW hl K
    by_cases q13 : x = (13 : Int32)
    · refine lv_tableIn (off := 454) (tgt := 487) hx hb dL_law_33 (by rw [q13]; decide) (by rw [q13]; decide) (by rw [q13]; decide) (by decide) ?_
      exact lw_c13 S C hX hbl hL hj7 hC hW hl K
    by_cases q14 : x = (14 : Int32)
    · refine lv_tableIn (off := 467) (tgt := 500) hx hb dL_law_33 (by rw [q14]; decide) (by rw [q14]; decide) (by rw [q14]; decide) (by decide) ?_
      exact lw_c14 S C hX hbl hL hj7 hC hW hl K
    by_cases q15 : x = (15 : Int32)
    · refine lv_tableIn (off := 500) (tgt := 533) hx hb dL_law_33 (by rw [q15]; decide) (by rw [q15]; decide) (by rw [q15]; decide) (by decide) ?_
      exact lw_c15 S C hX hbl hL hj7 hC hW hl K
    by_cases q16 : x = (16 : Int32)
    · refine lv_tableIn (off := 523) (tgt := 556) hx hb dL_law_33 (by rw [q16]; decide) (by rw [q16]; decide) (by rw [q16]; decide) (by decide) ?_
      exact lw_c16 S C hX hbl hL hj7 hC hW hl K
    by_cases q17 : x = (17 : Int32)
    · refine lv_tableIn (off := 556) (tgt := 589) hx hb dL_law_33 (by rw [q17]; decide) (by rw [q17]; decide) (by rw [q17]; decide) (by decide) ?_
      exact lw_c17 S C hX hbl hL hj7 hC hW hl K
    by_cases q18 : x = (18 : Int32)
    · refine lv_tableIn (off := 569) (tgt := 602) hx hb dL_law_33 (by rw [q18]; decide) (by rw [q18]; decide) (by rw [q18]; decide) (by decide) ?_
      exact lw_c18 S C hX hbl hL hj7 hC hW hl K
    by_cases q19 : x = (19 : Int32)
    · refine lv_tableIn (off := 592) (tgt := 625) hx hb dL_law_33 (by rw [q19]; decide) (by rw [q19]; decide) (by rw [q19]; decide) (by decide) ?_
      exact lw_c19 S C hX hbl hL hj7 hC hW hl K
    by_cases q20 : x = (20 : Int32)
    · refine lv_tableIn (off := 635) (tgt := 668) hx hb dL_law_33 (by rw [q20]; decide) (by rw [q20]; decide) (by rw [q20]; decide) (by decide) ?_
      exact lw_c20 S C hX hbl hL hj7 hC hW hl K
    by_cases q21 : x = (21 : Int32)
    · refine lv_tableIn (off := 658) (tgt := 691) hx hb dL_law_33 (by rw [q21]; decide) (by rw [q21]; decide) (by rw [q21]; decide) (by decide) ?_
      exact lw_c21 S C hX hbl hL hj7 hC hW hl K
    by_cases q22 : x = (22 : Int32)
    · refine lv_tableIn (off := 681) (tgt := 714) hx hb dL_law_33 (by rw [q22]; decide) (by rw [q22]; decide) (by rw [q22]; decide) (by decide) ?_
      exact lw_c22 S C hX hbl hL hj7 hC hW hl K
    by_cases q23 : x = (23 : Int32)
    · refine lv_tableIn (off := 704) (tgt := 737) hx hb dL_law_33 (by rw [q23]; decide) (by rw [q23]; decide) (by rw [q23]; decide) (by decide) ?_
      exact lw_c23 S C hX hbl hL hj7 hC hW hl K
    by_cases q24 : x = (24 : Int32)
    · refine lv_tableIn (off := 717) (tgt := 750) hx hb dL_law_33 (by rw [q24]; decide) (by rw [q24]; decide) (by rw [q24]; decide) (by decide) ?_
      exact lw_c24 S C hX hbl hL hj7 hC hW hl K
    by_cases q25 : x = (25 : Int32)
    · refine lv_tableIn (off := 730) (tgt := 763) hx hb dL_law_33 (by rw [q25]; decide) (by rw [q25]; decide) (by rw [q25]; decide) (by decide) ?_
      exact lw_c25 S C hX hbl hL hj7 hC hW hl K
    by_cases q26 : x = (26 : Int32)
    · refine lv_tableIn (off := 743) (tgt := 776) hx hb dL_law_33 (by rw [q26]; decide) (by rw [q26]; decide) (by rw [q26]; decide) (by decide) ?_
      exact lw_c26 S C hX hbl hL hj7 hC hW hl K
    by_cases q27 : x = (27 : Int32)
    · refine lv_tableIn (off := 818) (tgt := 851) hx hb dL_law_33 (by rw [q27]; decide) (by rw [q27]; decide) (by rw [q27]; decide) (by decide) ?_
      exact lw_c27 S C hX hbl hL hj7 hC hW hl K
    by_cases q28 : x = (28 : Int32)
    · refine lv_tableIn (off := 841) (tgt := 874) hx hb dL_law_33 (by rw [q28]; decide) (by rw [q28]; decide) (by rw [q28]; decide) (by decide) ?_
      exact lw_c28 S C hX hbl hL hj7 hC hW hl K
    by_cases q29 : x = (29 : Int32)
    · refine lv_tableIn (off := 874) (tgt := 907) hx hb dL_law_33 (by rw [q29]; decide) (by rw [q29]; decide) (by rw [q29]; decide) (by decide) ?_
      exact lw_c29 S C hX hbl hL hj7 hC hW hl K
    by_cases q30 : x = (30 : Int32)
    · refine lv_tableIn (off := 898) (tgt := 931) hx hb dL_law_33 (by rw [q30]; decide) (by rw [q30]; decide) (by rw [q30]; decide) (by decide) ?_
      exact lw_c30 S C hX hbl hL hj7 hC hW hl K
    by_cases q31 : x = (31 : Int32)
    · refine lv_tableIn (off := 921) (tgt := 954) hx hb dL_law_33 (by rw [q31]; decide) (by rw [q31]; decide) (by rw [q31]; decide) (by decide) ?_
      exact lw_c31 S C hX hbl hL hj7 hC hW hl K
    by_cases q32 : x = (32 : Int32)
    · refine lv_tableIn (off := 944) (tgt := 977) hx hb dL_law_33 (by rw [q32]; decide) (by rw [q32]; decide) (by rw [q32]; decide) (by decide) ?_
      exact lw_c32 S C hX hbl hL hj7 hC hW hl K
    by_cases q33 : x = (33 : Int32)
    · refine lv_tableIn (off := 967) (tgt := 1000) hx hb dL_law_33 (by rw [q33]; decide) (by rw [q33]; decide) (by rw [q33]; decide) (by decide) ?_
      exact lw_c33 S C hX hbl hL hj7 hC hW hl K
    by_cases q34 : x = (34 : Int32)
    · refine lv_tableIn (off := 990) (tgt := 1023) hx hb dL_law_33 (by rw [q34]; decide) (by rw [q34]; decide) (by rw [q34]; decide) (by decide) ?_
      exact lw_c34 S C hX hbl hL hj7 hC hW hl K
    refine lv_tableOut (tgt := 1037) hx hb dL_law_33 (by have z := And.intro (lv_neT q0 (a := 0) rfl) (And.intro (lv_neT q1 (a := 1) rfl) (And.intro (lv_neT q2 (a := 2) rfl) (And.intro (lv_neT q3 (a := 3) rfl) (And.intro (lv_neT q4 (a := 4) rfl) (And.intro (lv_neT q5 (a := 5) rfl) (And.intro (lv_neT q6 (a := 6) rfl) (And.intro (lv_neT q7 (a := 7) rfl) (And.intro (lv_neT q8 (a := 8) rfl) (And.intro (lv_neT q9 (a := 9) rfl) (And.intro (lv_neT q10 (a := 10) rfl) (And.intro (lv_neT q11 (a := 11) rfl) (And.intro (lv_neT q12 (a := 12) rfl) (And.intro (lv_neT q13 (a := 13) rfl) (And.intro (lv_neT q14 (a := 14) rfl) (And.intro (lv_neT q15 (a := 15) rfl) (And.intro (lv_neT q16 (a := 16) rfl) (And.intro (lv_neT q17 (a := 17) rfl) (And.intro (lv_neT q18 (a := 18) rfl) (And.intro (lv_neT q19 (a := 19) rfl) (And.intro (lv_neT q20 (a := 20) rfl) (And.intro (lv_neT q21 (a := 21) rfl) (And.intro (lv_neT q22 (a := 22) rfl) (And.intro (lv_neT q23 (a := 23) rfl) (And.intro (lv_neT q24 (a := 24) rfl) (And.intro (lv_neT q25 (a := 25) rfl) (And.intro (lv_neT q26 (a := 26) rfl) (And.intro (lv_neT q27 (a := 27) rfl) (And.intro (lv_neT q28 (a := 28) rfl) (And.intro (lv_neT q29 (a := 29) rfl) (And.intro (lv_neT q30 (a := 30) rfl) (And.intro (lv_neT q31 (a := 31) rfl) (And.intro (lv_neT q32 (a := 32) rfl) (And.intro (lv_neT q33 (a := 33) rfl) (lv_neT q34 (a := 34) rfl)))))))))))))))))))))))))))))))))); omega) (by decide) ?_
    exact K σ τ H locs hC.idle hW
