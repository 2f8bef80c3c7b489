/-! THE LAW'S CASES (laid by wip/gen/law.py), the second half -/
set_option maxHeartbeats 4000000 in
set_option maxRecDepth 100000 in
theorem lw_c18 {p : Program} {l : Launch} {e : Env} {s : State} {m : MethodId} {below : List Frame} {meth : Method} {c : Code} {Q : State → Prop} {D : va_G} {Y : Nat → ClassId} {A B : ss_A} {b L j : Nat} {xs : Nat → Int32} (S : CallFix p m c cL_law 4 s #[Value.ref b] lw_tbl RL) (C : LC D Y A B s) (hX : va_X b L xs s s.heap) (hbl : b < s.heap.size) (hL : L ≤ 448) (hj : 7 * j + 7 ≤ L) {σ τ : ss_M} (hC : Cpl j σ τ) {H : Heap} {locs : List Loc} (hW : LW D Y A B σ τ s H locs) {ls : Array Slot} (hl : lv_has ls 4 [(0, .ref b), (1, .ref (A 0 6 0)), (2, .ref (B 0 7 0)), (3, .int (nI (7 * j)))])
    (kk : ∀ (σ' τ' : ss_M) (H1 : Heap) (locs1 : List Loc), Cpl (j + 1) σ' τ' → LW D Y A B σ' τ' s H1 locs1 → W p l e room_1 s m #[Value.ref b] below meth c H1 locs1 600000 7302250 Q (F0 m 1037 ls [])) : W p l e room_1 s m #[Value.ref b] below meth c H locs 600000 7302250 Q (F0 m 602 ls []) := by
  obtain ⟨hx, hb, hml, hown, hts⟩ := id S
  have hbA : ¬ (fun q : Nat => s.heap.size ≤ q) b := Nat.not_le.mpr hbl
  obtain ⟨r, σ', τ', e1, e2, hC'⟩ := sim_sentences hC (xs (nI (7 * j) + nI 1).toNatClampNeg)
  refine lv_aload_n hx hb dL_law_602 rfl (lv_at hl 1 rfl) ?_
  refine lv_aload_n hx hb dL_law_603 rfl (lv_at hl 0 rfl) ?_
  refine lv_iload_n hx hb dL_law_604 rfl (lv_at hl 3 rfl) ?_
  refine lv_iconst (v := nI 1) hx hb dL_law_605 (by decide) ?_
  refine lv_iadd hx hb dL_law_606 ?_
  refine va_sld hx hb hX hbl hbA hW.2.2 (lw_in hj hL (by decide)) dL_law_607 ?_
  refine lwx_i (As := [.int (xs (nI (7 * j) + nI 1).toNatClampNeg)]) (rest := []) S C (c_X7_sentences l C.1 e1) (cwV 1 hts gL_law_X7_sentences rfl rfl rfl hd_X7_sentences ⟨(Nat.le_of_ble_eq_true rfl), (Nat.le_of_ble_eq_true rfl)⟩) hW rfl rfl hl.1 (Nat.le_of_ble_eq_true rfl) dL_law_608 (fun H locs hW => ?_)
  refine lv_aload_n hx hb dL_law_611 rfl (lv_at hl 2 rfl) ?_
  refine lv_aload_n hx hb dL_law_612 rfl (lv_at hl 0 rfl) ?_
  refine lv_iload_n hx hb dL_law_613 rfl (lv_at hl 3 rfl) ?_
  refine lv_iconst (v := nI 1) hx hb dL_law_614 (by decide) ?_
  refine lv_iadd hx hb dL_law_615 ?_
  refine va_sld hx hb hX hbl hbA hW.2.2 (lw_in hj hL (by decide)) dL_law_616 ?_
  refine lwm_i (As := [.int (xs (nI (7 * j) + nI 1).toNatClampNeg)]) (rest := [.int r]) S C (c_X8_sentences l C.2.1 e2) (cwV 1 hts gL_law_X8_sentences rfl rfl rfl hd_X8_sentences ⟨(Nat.le_of_ble_eq_true rfl), (Nat.le_of_ble_eq_true rfl)⟩) hW rfl rfl hl.1 (Nat.le_of_ble_eq_true rfl) dL_law_617 (fun H locs hW => ?_)
  refine lv_icmp_eq (tgt := 1037) hx hb dL_law_620 (by decide) (fun _ => ?_) (fun q => absurd rfl q)
  exact kk σ' τ' H locs hC' hW
set_option maxHeartbeats 4000000 in
set_option maxRecDepth 100000 in
theorem lw_c19 {p : Program} {l : Launch} {e : Env} {s : State} {m : MethodId} {below : List Frame} {meth : Method} {c : Code} {Q : State → Prop} {D : va_G} {Y : Nat → ClassId} {A B : ss_A} {b L j : Nat} {xs : Nat → Int32} (S : CallFix p m c cL_law 4 s #[Value.ref b] lw_tbl RL) (C : LC D Y A B s) (hX : va_X b L xs s s.heap) (hbl : b < s.heap.size) (hL : L ≤ 448) (hj : 7 * j + 7 ≤ L) {σ τ : ss_M} (hC : Cpl j σ τ) {H : Heap} {locs : List Loc} (hW : LW D Y A B σ τ s H locs) {ls : Array Slot} (hl : lv_has ls 4 [(0, .ref b), (1, .ref (A 0 6 0)), (2, .ref (B 0 7 0)), (3, .int (nI (7 * j)))])
    (kk : ∀ (σ' τ' : ss_M) (H1 : Heap) (locs1 : List Loc), Cpl (j + 1) σ' τ' → LW D Y A B σ' τ' s H1 locs1 → W p l e room_1 s m #[Value.ref b] below meth c H1 locs1 600000 7302250 Q (F0 m 1037 ls [])) : W p l e room_1 s m #[Value.ref b] below meth c H locs 600000 7302250 Q (F0 m 625 ls []) := by
  obtain ⟨hx, hb, hml, hown, hts⟩ := id S
  have hbA : ¬ (fun q : Nat => s.heap.size ≤ q) b := Nat.not_le.mpr hbl
  obtain ⟨r, σ', τ', e1, e2, hC'⟩ := sim_cheapest (by omega) hC (xs (nI (7 * j) + nI 1).toNatClampNeg) (xs (nI (7 * j) + nI 2).toNatClampNeg) (xs (nI (7 * j) + nI 3).toNatClampNeg)
  refine lv_aload_n hx hb dL_law_625 rfl (lv_at hl 1 rfl) ?_
  refine lv_aload_n hx hb dL_law_626 rfl (lv_at hl 0 rfl) ?_
  refine lv_iload_n hx hb dL_law_627 rfl (lv_at hl 3 rfl) ?_
  refine lv_iconst (v := nI 1) hx hb dL_law_628 (by decide) ?_
  refine lv_iadd hx hb dL_law_629 ?_
  refine va_sld hx hb hX hbl hbA hW.2.2 (lw_in hj hL (by decide)) dL_law_630 ?_
  refine lv_aload_n hx hb dL_law_631 rfl (lv_at hl 0 rfl) ?_
  refine lv_iload_n hx hb dL_law_632 rfl (lv_at hl 3 rfl) ?_
  refine lv_iconst (v := nI 2) hx hb dL_law_633 (by decide) ?_
  refine lv_iadd hx hb dL_law_634 ?_
  refine va_sld hx hb hX hbl hbA hW.2.2 (lw_in hj hL (by decide)) dL_law_635 ?_
  refine lv_aload_n hx hb dL_law_636 rfl (lv_at hl 0 rfl) ?_
  refine lv_iload_n hx hb dL_law_637 rfl (lv_at hl 3 rfl) ?_
  refine lv_iconst (v := nI 3) hx hb dL_law_638 (by decide) ?_
  refine lv_iadd hx hb dL_law_639 ?_
  refine va_sld hx hb hX hbl hbA hW.2.2 (lw_in hj hL (by decide)) dL_law_640 ?_
  refine lwx_i (As := [.int (xs (nI (7 * j) + nI 1).toNatClampNeg), .int (xs (nI (7 * j) + nI 2).toNatClampNeg), .int (xs (nI (7 * j) + nI 3).toNatClampNeg)]) (rest := []) S C (c_X7_cheapest l C.1 e1) (cwV 3 hts gL_law_X7_cheapest rfl rfl rfl hd_X7_cheapest ⟨(Nat.le_of_ble_eq_true rfl), (Nat.le_of_ble_eq_true rfl)⟩) hW rfl rfl hl.1 (Nat.le_of_ble_eq_true rfl) dL_law_641 (fun H locs hW => ?_)
  refine lv_aload_n hx hb dL_law_644 rfl (lv_at hl 2 rfl) ?_
  refine lv_aload_n hx hb dL_law_645 rfl (lv_at hl 0 rfl) ?_
  refine lv_iload_n hx hb dL_law_646 rfl (lv_at hl 3 rfl) ?_
  refine lv_iconst (v := nI 1) hx hb dL_law_647 (by decide) ?_
  refine lv_iadd hx hb dL_law_648 ?_
  refine va_sld hx hb hX hbl hbA hW.2.2 (lw_in hj hL (by decide)) dL_law_649 ?_
  refine lv_aload_n hx hb dL_law_650 rfl (lv_at hl 0 rfl) ?_
  refine lv_iload_n hx hb dL_law_651 rfl (lv_at hl 3 rfl) ?_
  refine lv_iconst (v := nI 2) hx hb dL_law_652 (by decide) ?_
  refine lv_iadd hx hb dL_law_653 ?_
  refine va_sld hx hb hX hbl hbA hW.2.2 (lw_in hj hL (by decide)) dL_law_654 ?_
  refine lv_aload_n hx hb dL_law_655 rfl (lv_at hl 0 rfl) ?_
  refine lv_iload_n hx hb dL_law_656 rfl (lv_at hl 3 rfl) ?_
  refine lv_iconst (v := nI 3) hx hb dL_law_657 (by decide) ?_
  refine lv_iadd hx hb dL_law_658 ?_
  refine va_sld hx hb hX hbl hbA hW.2.2 (lw_in hj hL (by decide)) dL_law_659 ?_
  refine lwm_i (As := [.int (xs (nI (7 * j) + nI 1).toNatClampNeg), .int (xs (nI (7 * j) + nI 2).toNatClampNeg), .int (xs (nI (7 * j) + nI 3).toNatClampNeg)]) (rest := [.int r]) S C (c_X8_cheapest l C.2.1 e2) (cwV 3 hts gL_law_X8_cheapest rfl rfl rfl hd_X8_cheapest ⟨(Nat.le_of_ble_eq_true rfl), (Nat.le_of_ble_eq_true rfl)⟩) hW rfl rfl hl.1 (Nat.le_of_ble_eq_true rfl) dL_law_660 (fun H locs hW => ?_)
  refine lv_icmp_eq (tgt := 1037) hx hb dL_law_663 (by decide) (fun _ => ?_) (fun q => absurd rfl q)
  exact kk σ' τ' H locs hC' hW
set_option maxHeartbeats 4000000 in
set_option maxRecDepth 100000 in
theorem lw_c20 {p : Program} {l : Launch} {e : Env} {s : State} {m : MethodId} {below : List Frame} {meth : Method} {c : Code} {Q : State → Prop} {D : va_G} {Y : Nat → ClassId} {A B : ss_A} {b L j : Nat} {xs : Nat → Int32} (S : CallFix p m c cL_law 4 s #[Value.ref b] lw_tbl RL) (C : LC D Y A B s) (hX : va_X b L xs s s.heap) (hbl : b < s.heap.size) (hL : L ≤ 448) (hj : 7 * j + 7 ≤ L) {σ τ : ss_M} (hC : Cpl j σ τ) {H : Heap} {locs : List Loc} (hW : LW D Y A B σ τ s H locs) {ls : Array Slot} (hl : lv_has ls 4 [(0, .ref b), (1, .ref (A 0 6 0)), (2, .ref (B 0 7 0)), (3, .int (nI (7 * j)))])
    (kk : ∀ (σ' τ' : ss_M) (H1 : Heap) (locs1 : List Loc), Cpl (j + 1) σ' τ' → LW D Y A B σ' τ' s H1 locs1 → W p l e room_1 s m #[Value.ref b] below meth c H1 locs1 600000 7302250 Q (F0 m 1037 ls [])) : W p l e room_1 s m #[Value.ref b] below meth c H locs 600000 7302250 Q (F0 m 668 ls []) := by
  obtain ⟨hx, hb, hml, hown, hts⟩ := id S
  have hbA : ¬ (fun q : Nat => s.heap.size ≤ q) b := Nat.not_le.mpr hbl
  obtain ⟨r, σ', τ', e1, e2, hC'⟩ := sim_reach (by omega) hC (xs (nI (7 * j) + nI 1).toNatClampNeg)
  refine lv_aload_n hx hb dL_law_668 rfl (lv_at hl 1 rfl) ?_
  refine lv_aload_n hx hb dL_law_669 rfl (lv_at hl 0 rfl) ?_
  refine lv_iload_n hx hb dL_law_670 rfl (lv_at hl 3 rfl) ?_
  refine lv_iconst (v := nI 1) hx hb dL_law_671 (by decide) ?_
  refine lv_iadd hx hb dL_law_672 ?_
  refine va_sld hx hb hX hbl hbA hW.2.2 (lw_in hj hL (by decide)) dL_law_673 ?_
  refine lwx_i (As := [.int (xs (nI (7 * j) + nI 1).toNatClampNeg)]) (rest := []) S C (c_X7_reach l C.1 e1) (cwV 1 hts gL_law_X7_reach rfl rfl rfl hd_X7_reach ⟨(Nat.le_of_ble_eq_true rfl), (Nat.le_of_ble_eq_true rfl)⟩) hW rfl rfl hl.1 (Nat.le_of_ble_eq_true rfl) dL_law_674 (fun H locs hW => ?_)
  refine lv_aload_n hx hb dL_law_677 rfl (lv_at hl 2 rfl) ?_
  refine lv_aload_n hx hb dL_law_678 rfl (lv_at hl 0 rfl) ?_
  refine lv_iload_n hx hb dL_law_679 rfl (lv_at hl 3 rfl) ?_
  refine lv_iconst (v := nI 1) hx hb dL_law_680 (by decide) ?_
  refine lv_iadd hx hb dL_law_681 ?_
  refine va_sld hx hb hX hbl hbA hW.2.2 (lw_in hj hL (by decide)) dL_law_682 ?_
  refine lwm_i (As := [.int (xs (nI (7 * j) + nI 1).toNatClampNeg)]) (rest := [.int r]) S C (c_X8_reach l C.2.1 e2) (cwV 1 hts gL_law_X8_reach rfl rfl rfl hd_X8_reach ⟨(Nat.le_of_ble_eq_true rfl), (Nat.le_of_ble_eq_true rfl)⟩) hW rfl rfl hl.1 (Nat.le_of_ble_eq_true rfl) dL_law_683 (fun H locs hW => ?_)
  refine lv_icmp_eq (tgt := 1037) hx hb dL_law_686 (by decide) (fun _ => ?_) (fun q => absurd rfl q)
  exact kk σ' τ' H locs hC' hW
set_option maxHeartbeats 4000000 in
set_option maxRecDepth 100000 in
theorem lw_c21 {p : Program} {l : Launch} {e : Env} {s : State} {m : MethodId} {below : List Frame} {meth : Method} {c : Code} {Q : State → Prop} {D : va_G} {Y : Nat → ClassId} {A B : ss_A} {b L j : Nat} {xs : Nat → Int32} (S : CallFix p m c cL_law 4 s #[Value.ref b] lw_tbl RL) (C : LC D Y A B s) (hX : va_X b L xs s s.heap) (hbl : b < s.heap.size) (hL : L ≤ 448) (hj : 7 * j + 7 ≤ L) {σ τ : ss_M} (hC : Cpl j σ τ) {H : Heap} {locs : List Loc} (hW : LW D Y A B σ τ s H locs) {ls : Array Slot} (hl : lv_has ls 4 [(0, .ref b), (1, .ref (A 0 6 0)), (2, .ref (B 0 7 0)), (3, .int (nI (7 * j)))])
    (kk : ∀ (σ' τ' : ss_M) (H1 : Heap) (locs1 : List Loc), Cpl (j + 1) σ' τ' → LW D Y A B σ' τ' s H1 locs1 → W p l e room_1 s m #[Value.ref b] below meth c H1 locs1 600000 7302250 Q (F0 m 1037 ls [])) : W p l e room_1 s m #[Value.ref b] below meth c H locs 600000 7302250 Q (F0 m 691 ls []) := by
  obtain ⟨hx, hb, hml, hown, hts⟩ := id S
  have hbA : ¬ (fun q : Nat => s.heap.size ≤ q) b := Nat.not_le.mpr hbl
  obtain ⟨r, σ', τ', e1, e2, hC'⟩ := sim_order hC (xs (nI (7 * j) + nI 1).toNatClampNeg)
  refine lv_aload_n hx hb dL_law_691 rfl (lv_at hl 1 rfl) ?_
  refine lv_aload_n hx hb dL_law_692 rfl (lv_at hl 0 rfl) ?_
  refine lv_iload_n hx hb dL_law_693 rfl (lv_at hl 3 rfl) ?_
  refine lv_iconst (v := nI 1) hx hb dL_law_694 (by decide) ?_
  refine lv_iadd hx hb dL_law_695 ?_
  refine va_sld hx hb hX hbl hbA hW.2.2 (lw_in hj hL (by decide)) dL_law_696 ?_
  refine lwx_i (As := [.int (xs (nI (7 * j) + nI 1).toNatClampNeg)]) (rest := []) S C (c_X7_order l C.1 e1) (cwV 1 hts gL_law_X7_order rfl rfl rfl hd_X7_order ⟨(Nat.le_of_ble_eq_true rfl), (Nat.le_of_ble_eq_true rfl)⟩) hW rfl rfl hl.1 (Nat.le_of_ble_eq_true rfl) dL_law_697 (fun H locs hW => ?_)
  refine lv_aload_n hx hb dL_law_700 rfl (lv_at hl 2 rfl) ?_
  refine lv_aload_n hx hb dL_law_701 rfl (lv_at hl 0 rfl) ?_
  refine lv_iload_n hx hb dL_law_702 rfl (lv_at hl 3 rfl) ?_
  refine lv_iconst (v := nI 1) hx hb dL_law_703 (by decide) ?_
  refine lv_iadd hx hb dL_law_704 ?_
  refine va_sld hx hb hX hbl hbA hW.2.2 (lw_in hj hL (by decide)) dL_law_705 ?_
  refine lwm_i (As := [.int (xs (nI (7 * j) + nI 1).toNatClampNeg)]) (rest := [.int r]) S C (c_X8_order l C.2.1 e2) (cwV 1 hts gL_law_X8_order rfl rfl rfl hd_X8_order ⟨(Nat.le_of_ble_eq_true rfl), (Nat.le_of_ble_eq_true rfl)⟩) hW rfl rfl hl.1 (Nat.le_of_ble_eq_true rfl) dL_law_706 (fun H locs hW => ?_)
  refine lv_icmp_eq (tgt := 1037) hx hb dL_law_709 (by decide) (fun _ => ?_) (fun q => absurd rfl q)
  exact kk σ' τ' H locs hC' hW
set_option maxHeartbeats 4000000 in
set_option maxRecDepth 100000 in
theorem lw_c22 {p : Program} {l : Launch} {e : Env} {s : State} {m : MethodId} {below : List Frame} {meth : Method} {c : Code} {Q : State → Prop} {D : va_G} {Y : Nat → ClassId} {A B : ss_A} {b L j : Nat} {xs : Nat → Int32} (S : CallFix p m c cL_law 4 s #[Value.ref b] lw_tbl RL) (C : LC D Y A B s) (hX : va_X b L xs s s.heap) (hbl : b < s.heap.size) (hL : L ≤ 448) (hj : 7 * j + 7 ≤ L) {σ τ : ss_M} (hC : Cpl j σ τ) {H : Heap} {locs : List Loc} (hW : LW D Y A B σ τ s H locs) {ls : Array Slot} (hl : lv_has ls 4 [(0, .ref b), (1, .ref (A 0 6 0)), (2, .ref (B 0 7 0)), (3, .int (nI (7 * j)))])
    (kk : ∀ (σ' τ' : ss_M) (H1 : Heap) (locs1 : List Loc), Cpl (j + 1) σ' τ' → LW D Y A B σ' τ' s H1 locs1 → W p l e room_1 s m #[Value.ref b] below meth c H1 locs1 600000 7302250 Q (F0 m 1037 ls [])) : W p l e room_1 s m #[Value.ref b] below meth c H locs 600000 7302250 Q (F0 m 714 ls []) := by
  obtain ⟨hx, hb, hml, hown, hts⟩ := id S
  have hbA : ¬ (fun q : Nat => s.heap.size ≤ q) b := Nat.not_le.mpr hbl
  obtain ⟨r, σ', τ', e1, e2, hC'⟩ := sim_heard hC (xs (nI (7 * j) + nI 1).toNatClampNeg)
  refine lv_aload_n hx hb dL_law_714 rfl (lv_at hl 1 rfl) ?_
  refine lv_aload_n hx hb dL_law_715 rfl (lv_at hl 0 rfl) ?_
  refine lv_iload_n hx hb dL_law_716 rfl (lv_at hl 3 rfl) ?_
  refine lv_iconst (v := nI 1) hx hb dL_law_717 (by decide) ?_
  refine lv_iadd hx hb dL_law_718 ?_
  refine va_sld hx hb hX hbl hbA hW.2.2 (lw_in hj hL (by decide)) dL_law_719 ?_
  refine lwx_i (As := [.int (xs (nI (7 * j) + nI 1).toNatClampNeg)]) (rest := []) S C (c_X7_heard l C.1 e1) (cwV 1 hts gL_law_X7_heard rfl rfl rfl hd_X7_heard ⟨(Nat.le_of_ble_eq_true rfl), (Nat.le_of_ble_eq_true rfl)⟩) hW rfl rfl hl.1 (Nat.le_of_ble_eq_true rfl) dL_law_720 (fun H locs hW => ?_)
  refine lv_aload_n hx hb dL_law_723 rfl (lv_at hl 2 rfl) ?_
  refine lv_aload_n hx hb dL_law_724 rfl (lv_at hl 0 rfl) ?_
  refine lv_iload_n hx hb dL_law_725 rfl (lv_at hl 3 rfl) ?_
  refine lv_iconst (v := nI 1) hx hb dL_law_726 (by decide) ?_
  refine lv_iadd hx hb dL_law_727 ?_
  refine va_sld hx hb hX hbl hbA hW.2.2 (lw_in hj hL (by decide)) dL_law_728 ?_
  refine lwm_i (As := [.int (xs (nI (7 * j) + nI 1).toNatClampNeg)]) (rest := [.int r]) S C (c_X8_heard l C.2.1 e2) (cwV 1 hts gL_law_X8_heard rfl rfl rfl hd_X8_heard ⟨(Nat.le_of_ble_eq_true rfl), (Nat.le_of_ble_eq_true rfl)⟩) hW rfl rfl hl.1 (Nat.le_of_ble_eq_true rfl) dL_law_729 (fun H locs hW => ?_)
  refine lv_icmp_eq (tgt := 1037) hx hb dL_law_732 (by decide) (fun _ => ?_) (fun q => absurd rfl q)
  exact kk σ' τ' H locs hC' hW
set_option maxHeartbeats 4000000 in
set_option maxRecDepth 100000 in
theorem lw_c23 {p : Program} {l : Launch} {e : Env} {s : State} {m : MethodId} {below : List Frame} {meth : Method} {c : Code} {Q : State → Prop} {D : va_G} {Y : Nat → ClassId} {A B : ss_A} {b L j : Nat} {xs : Nat → Int32} (S : CallFix p m c cL_law 4 s #[Value.ref b] lw_tbl RL) (C : LC D Y A B s) (hX : va_X b L xs s s.heap) (hbl : b < s.heap.size) (hL : L ≤ 448) (hj : 7 * j + 7 ≤ L) {σ τ : ss_M} (hC : Cpl j σ τ) {H : Heap} {locs : List Loc} (hW : LW D Y A B σ τ s H locs) {ls : Array Slot} (hl : lv_has ls 4 [(0, .ref b), (1, .ref (A 0 6 0)), (2, .ref (B 0 7 0)), (3, .int (nI (7 * j)))])
    (kk : ∀ (σ' τ' : ss_M) (H1 : Heap) (locs1 : List Loc), Cpl (j + 1) σ' τ' → LW D Y A B σ' τ' s H1 locs1 → W p l e room_1 s m #[Value.ref b] below meth c H1 locs1 600000 7302250 Q (F0 m 1037 ls [])) : W p l e room_1 s m #[Value.ref b] below meth c H locs 600000 7302250 Q (F0 m 737 ls []) := by
  obtain ⟨hx, hb, hml, hown, hts⟩ := id S
  have hbA : ¬ (fun q : Nat => s.heap.size ≤ q) b := Nat.not_le.mpr hbl
  obtain ⟨r, σ', τ', e1, e2, hC'⟩ := sim_forget hC 
  refine lv_aload_n hx hb dL_law_737 rfl (lv_at hl 1 rfl) ?_
  refine lwx_i (As := []) (rest := []) S C (c_X7_forget l C.1 e1) (cwV 0 hts gL_law_X7_forget rfl rfl rfl hd_X7_forget ⟨(Nat.le_of_ble_eq_true rfl), (Nat.le_of_ble_eq_true rfl)⟩) hW rfl rfl hl.1 (Nat.le_of_ble_eq_true rfl) dL_law_738 (fun H locs hW => ?_)
  refine lv_aload_n hx hb dL_law_741 rfl (lv_at hl 2 rfl) ?_
  refine lwm_i (As := []) (rest := [.int r]) S C (c_X8_forget l C.2.1 e2) (cwV 0 hts gL_law_X8_forget rfl rfl rfl hd_X8_forget ⟨(Nat.le_of_ble_eq_true rfl), (Nat.le_of_ble_eq_true rfl)⟩) hW rfl rfl hl.1 (Nat.le_of_ble_eq_true rfl) dL_law_742 (fun H locs hW => ?_)
  refine lv_icmp_eq (tgt := 1037) hx hb dL_law_745 (by decide) (fun _ => ?_) (fun q => absurd rfl q)
  exact kk σ' τ' H locs hC' hW
set_option maxHeartbeats 4000000 in
set_option maxRecDepth 100000 in
theorem lw_c24 {p : Program} {l : Launch} {e : Env} {s : State} {m : MethodId} {below : List Frame} {meth : Method} {c : Code} {Q : State → Prop} {D : va_G} {Y : Nat → ClassId} {A B : ss_A} {b L j : Nat} {xs : Nat → Int32} (S : CallFix p m c cL_law 4 s #[Value.ref b] lw_tbl RL) (C : LC D Y A B s) (hX : va_X b L xs s s.heap) (hbl : b < s.heap.size) (hL : L ≤ 448) (hj : 7 * j + 7 ≤ L) {σ τ : ss_M} (hC : Cpl j σ τ) {H : Heap} {locs : List Loc} (hW : LW D Y A B σ τ s H locs) {ls : Array Slot} (hl : lv_has ls 4 [(0, .ref b), (1, .ref (A 0 6 0)), (2, .ref (B 0 7 0)), (3, .int (nI (7 * j)))])
    (kk : ∀ (σ' τ' : ss_M) (H1 : Heap) (locs1 : List Loc), Cpl (j + 1) σ' τ' → LW D Y A B σ' τ' s H1 locs1 → W p l e room_1 s m #[Value.ref b] below meth c H1 locs1 600000 7302250 Q (F0 m 1037 ls [])) : W p l e room_1 s m #[Value.ref b] below meth c H locs 600000 7302250 Q (F0 m 750 ls []) := by
  obtain ⟨hx, hb, hml, hown, hts⟩ := id S
  have hbA : ¬ (fun q : Nat => s.heap.size ≤ q) b := Nat.not_le.mpr hbl
  obtain ⟨r, σ', τ', e1, e2, hC'⟩ := sim_breaths hC 
  refine lv_aload_n hx hb dL_law_750 rfl (lv_at hl 1 rfl) ?_
  refine lwx_i (As := []) (rest := []) S C (c_X7_breaths l C.1 e1) (cwV 0 hts gL_law_X7_breaths rfl rfl rfl hd_X7_breaths ⟨(Nat.le_of_ble_eq_true rfl), (Nat.le_of_ble_eq_true rfl)⟩) hW rfl rfl hl.1 (Nat.le_of_ble_eq_true rfl) dL_law_751 (fun H locs hW => ?_)
  refine lv_aload_n hx hb dL_law_754 rfl (lv_at hl 2 rfl) ?_
  refine lwm_i (As := []) (rest := [.int r]) S C (c_X8_breaths l C.2.1 e2) (cwV 0 hts gL_law_X8_breaths rfl rfl rfl hd_X8_breaths ⟨(Nat.le_of_ble_eq_true rfl), (Nat.le_of_ble_eq_true rfl)⟩) hW rfl rfl hl.1 (Nat.le_of_ble_eq_true rfl) dL_law_755 (fun H locs hW => ?_)
  refine lv_icmp_eq (tgt := 1037) hx hb dL_law_758 (by decide) (fun _ => ?_) (fun q => absurd rfl q)
  exact kk σ' τ' H locs hC' hW
set_option maxHeartbeats 4000000 in
set_option maxRecDepth 100000 in
theorem lw_c25 {p : Program} {l : Launch} {e : Env} {s : State} {m : MethodId} {below : List Frame} {meth : Method} {c : Code} {Q : State → Prop} {D : va_G} {Y : Nat → ClassId} {A B : ss_A} {b L j : Nat} {xs : Nat → Int32} (S : CallFix p m c cL_law 4 s #[Value.ref b] lw_tbl RL) (C : LC D Y A B s) (hX : va_X b L xs s s.heap) (hbl : b < s.heap.size) (hL : L ≤ 448) (hj : 7 * j + 7 ≤ L) {σ τ : ss_M} (hC : Cpl j σ τ) {H : Heap} {locs : List Loc} (hW : LW D Y A B σ τ s H locs) {ls : Array Slot} (hl : lv_has ls 4 [(0, .ref b), (1, .ref (A 0 6 0)), (2, .ref (B 0 7 0)), (3, .int (nI (7 * j)))])
    (kk : ∀ (σ' τ' : ss_M) (H1 : Heap) (locs1 : List Loc), Cpl (j + 1) σ' τ' → LW D Y A B σ' τ' s H1 locs1 → W p l e room_1 s m #[Value.ref b] below meth c H1 locs1 600000 7302250 Q (F0 m 1037 ls [])) : W p l e room_1 s m #[Value.ref b] below meth c H locs 600000 7302250 Q (F0 m 763 ls []) := by
  obtain ⟨hx, hb, hml, hown, hts⟩ := id S
  have hbA : ¬ (fun q : Nat => s.heap.size ≤ q) b := Nat.not_le.mpr hbl
  obtain ⟨r, σ', τ', e1, e2, hC'⟩ := sim_shorter hC 
  refine lv_aload_n hx hb dL_law_763 rfl (lv_at hl 1 rfl) ?_
  refine lwx_i (As := []) (rest := []) S C (c_X7_shorter l C.1 e1) (cwV 0 hts gL_law_X7_shorter rfl rfl rfl hd_X7_shorter ⟨(Nat.le_of_ble_eq_true rfl), (Nat.le_of_ble_eq_true rfl)⟩) hW rfl rfl hl.1 (Nat.le_of_ble_eq_true rfl) dL_law_764 (fun H locs hW => ?_)
  refine lv_aload_n hx hb dL_law_767 rfl (lv_at hl 2 rfl) ?_
  refine lwm_i (As := []) (rest := [.int r]) S C (c_X8_shorter l C.2.1 e2) (cwV 0 hts gL_law_X8_shorter rfl rfl rfl hd_X8_shorter ⟨(Nat.le_of_ble_eq_true rfl), (Nat.le_of_ble_eq_true rfl)⟩) hW rfl rfl hl.1 (Nat.le_of_ble_eq_true rfl) dL_law_768 (fun H locs hW => ?_)
  refine lv_icmp_eq (tgt := 1037) hx hb dL_law_771 (by decide) (fun _ => ?_) (fun q => absurd rfl q)
  exact kk σ' τ' H locs hC' hW
set_option maxHeartbeats 4000000 in
set_option maxRecDepth 100000 in
theorem lw_c26 {p : Program} {l : Launch} {e : Env} {s : State} {m : MethodId} {below : List Frame} {meth : Method} {c : Code} {Q : State → Prop} {D : va_G} {Y : Nat → ClassId} {A B : ss_A} {b L j : Nat} {xs : Nat → Int32} (S : CallFix p m c cL_law 4 s #[Value.ref b] lw_tbl RL) (C : LC D Y A B s) (hX : va_X b L xs s s.heap) (hbl : b < s.heap.size) (hL : L ≤ 448) (hj : 7 * j + 7 ≤ L) {σ τ : ss_M} (hC : Cpl j σ τ) {H : Heap} {locs : List Loc} (hW : LW D Y A B σ τ s H locs) {ls : Array Slot} (hl : lv_has ls 4 [(0, .ref b), (1, .ref (A 0 6 0)), (2, .ref (B 0 7 0)), (3, .int (nI (7 * j)))])
    (kk : ∀ (σ' τ' : ss_M) (H1 : Heap) (locs1 : List Loc), Cpl (j + 1) σ' τ' → LW D Y A B σ' τ' s H1 locs1 → W p l e room_1 s m #[Value.ref b] below meth c H1 locs1 600000 7302250 Q (F0 m 1037 ls [])) : W p l e room_1 s m #[Value.ref b] below meth c H locs 600000 7302250 Q (F0 m 776 ls []) := by
  obtain ⟨hx, hb, hml, hown, hts⟩ := id S
  have hbA : ¬ (fun q : Nat => s.heap.size ≤ q) b := Nat.not_le.mpr hbl
  obtain ⟨r, σ', τ', e1, e2, hC'⟩ := sim_bid (by omega) hC (xs (nI (7 * j) + nI 1).toNatClampNeg) (xs (nI (7 * j) + nI 2).toNatClampNeg) (xs (nI (7 * j) + nI 3).toNatClampNeg) (xs (nI (7 * j) + nI 4).toNatClampNeg) (xs (nI (7 * j) + nI 5).toNatClampNeg) (xs (nI (7 * j) + nI 6).toNatClampNeg)
  refine lv_aload_n hx hb dL_law_776 rfl (lv_at hl 1 rfl) ?_
  refine lv_aload_n hx hb dL_law_777 rfl (lv_at hl 0 rfl) ?_
  refine lv_iload_n hx hb dL_law_778 rfl (lv_at hl 3 rfl) ?_
  refine lv_iconst (v := nI 1) hx hb dL_law_779 (by decide) ?_
  refine lv_iadd hx hb dL_law_780 ?_
  refine va_sld hx hb hX hbl hbA hW.2.2 (lw_in hj hL (by decide)) dL_law_781 ?_
  refine lv_aload_n hx hb dL_law_782 rfl (lv_at hl 0 rfl) ?_
  refine lv_iload_n hx hb dL_law_783 rfl (lv_at hl 3 rfl) ?_
  refine lv_iconst (v := nI 2) hx hb dL_law_784 (by decide) ?_
  refine lv_iadd hx hb dL_law_785 ?_
  refine va_sld hx hb hX hbl hbA hW.2.2 (lw_in hj hL (by decide)) dL_law_786 ?_
  refine lv_aload_n hx hb dL_law_787 rfl (lv_at hl 0 rfl) ?_
  refine lv_iload_n hx hb dL_law_788 rfl (lv_at hl 3 rfl) ?_
  refine lv_iconst (v := nI 3) hx hb dL_law_789 (by decide) ?_
  refine lv_iadd hx hb dL_law_790 ?_
  refine va_sld hx hb hX hbl hbA hW.2.2 (lw_in hj hL (by decide)) dL_law_791 ?_
  refine lv_aload_n hx hb dL_law_792 rfl (lv_at hl 0 rfl) ?_
  refine lv_iload_n hx hb dL_law_793 rfl (lv_at hl 3 rfl) ?_
  refine lv_iconst (v := nI 4) hx hb dL_law_794 (by decide) ?_
  refine lv_iadd hx hb dL_law_795 ?_
  refine va_sld hx hb hX hbl hbA hW.2.2 (lw_in hj hL (by decide)) dL_law_796 ?_
  refine lv_aload_n hx hb dL_law_797 rfl (lv_at hl 0 rfl) ?_
  refine lv_iload_n hx hb dL_law_798 rfl (lv_at hl 3 rfl) ?_
  refine lv_iconst (v := nI 5) hx hb dL_law_799 (by decide) ?_
  refine lv_iadd hx hb dL_law_800 ?_
  refine va_sld hx hb hX hbl hbA hW.2.2 (lw_in hj hL (by decide)) dL_law_801 ?_
  refine lv_aload_n hx hb dL_law_802 rfl (lv_at hl 0 rfl) ?_
  refine lv_iload_n hx hb dL_law_803 rfl (lv_at hl 3 rfl) ?_
  refine lv_bipush (v := nI 6) hx hb dL_law_804 (by decide) ?_
  refine lv_iadd hx hb dL_law_806 ?_
  refine va_sld hx hb hX hbl hbA hW.2.2 (lw_in hj hL (by decide)) dL_law_807 ?_
  refine lwx_i (As := [.int (xs (nI (7 * j) + nI 1).toNatClampNeg), .int (xs (nI (7 * j) + nI 2).toNatClampNeg), .int (xs (nI (7 * j) + nI 3).toNatClampNeg), .int (xs (nI (7 * j) + nI 4).toNatClampNeg), .int (xs (nI (7 * j) + nI 5).toNatClampNeg), .int (xs (nI (7 * j) + nI 6).toNatClampNeg)]) (rest := []) S C (c_X7_bid l C.1 e1) (cwV 6 hts gL_law_X7_bid rfl rfl rfl hd_X7_bid ⟨(Nat.le_of_ble_eq_true rfl), (Nat.le_of_ble_eq_true rfl)⟩) hW rfl rfl hl.1 (Nat.le_of_ble_eq_true rfl) dL_law_808 (fun H locs hW => ?_)
  refine lv_aload_n hx hb dL_law_811 rfl (lv_at hl 2 rfl) ?_
  refine lv_aload_n hx hb dL_law_812 rfl (lv_at hl 0 rfl) ?_
  refine lv_iload_n hx hb dL_law_813 rfl (lv_at hl 3 rfl) ?_
  refine lv_iconst (v := nI 1) hx hb dL_law_814 (by decide) ?_
  refine lv_iadd hx hb dL_law_815 ?_
  refine va_sld hx hb hX hbl hbA hW.2.2 (lw_in hj hL (by decide)) dL_law_816 ?_
  refine lv_aload_n hx hb dL_law_817 rfl (lv_at hl 0 rfl) ?_
  refine lv_iload_n hx hb dL_law_818 rfl (lv_at hl 3 rfl) ?_
  refine lv_iconst (v := nI 2) hx hb dL_law_819 (by decide) ?_
  refine lv_iadd hx hb dL_law_820 ?_
  refine va_sld hx hb hX hbl hbA hW.2.2 (lw_in hj hL (by decide)) dL_law_821 ?_
  refine lv_aload_n hx hb dL_law_822 rfl (lv_at hl 0 rfl) ?_
  refine lv_iload_n hx hb dL_law_823 rfl (lv_at hl 3 rfl) ?_
  refine lv_iconst (v := nI 3) hx hb dL_law_824 (by decide) ?_
  refine lv_iadd hx hb dL_law_825 ?_
  refine va_sld hx hb hX hbl hbA hW.2.2 (lw_in hj hL (by decide)) dL_law_826 ?_
  refine lv_aload_n hx hb dL_law_827 rfl (lv_at hl 0 rfl) ?_
  refine lv_iload_n hx hb dL_law_828 rfl (lv_at hl 3 rfl) ?_
  refine lv_iconst (v := nI 4) hx hb dL_law_829 (by decide) ?_
  refine lv_iadd hx hb dL_law_830 ?_
  refine va_sld hx hb hX hbl hbA hW.2.2 (lw_in hj hL (by decide)) dL_law_831 ?_
  refine lv_aload_n hx hb dL_law_832 rfl (lv_at hl 0 rfl) ?_
  refine lv_iload_n hx hb dL_law_833 rfl (lv_at hl 3 rfl) ?_
  refine lv_iconst (v := nI 5) hx hb dL_law_834 (by decide) ?_
  refine lv_iadd hx hb dL_law_835 ?_
  refine va_sld hx hb hX hbl hbA hW.2.2 (lw_in hj hL (by decide)) dL_law_836 ?_
  refine lv_aload_n hx hb dL_law_837 rfl (lv_at hl 0 rfl) ?_
  refine lv_iload_n hx hb dL_law_838 rfl (lv_at hl 3 rfl) ?_
  refine lv_bipush (v := nI 6) hx hb dL_law_839 (by decide) ?_
  refine lv_iadd hx hb dL_law_841 ?_
  refine va_sld hx hb hX hbl hbA hW.2.2 (lw_in hj hL (by decide)) dL_law_842 ?_
  refine lwm_i (As := [.int (xs (nI (7 * j) + nI 1).toNatClampNeg), .int (xs (nI (7 * j) + nI 2).toNatClampNeg), .int (xs (nI (7 * j) + nI 3).toNatClampNeg), .int (xs (nI (7 * j) + nI 4).toNatClampNeg), .int (xs (nI (7 * j) + nI 5).toNatClampNeg), .int (xs (nI (7 * j) + nI 6).toNatClampNeg)]) (rest := [.int r]) S C (c_X8_bid l C.2.1 e2) (cwV 6 hts gL_law_X8_bid rfl rfl rfl hd_X8_bid ⟨(Nat.le_of_ble_eq_true rfl), (Nat.le_of_ble_eq_true rfl)⟩) hW rfl rfl hl.1 (Nat.le_of_ble_eq_true rfl) dL_law_843 (fun H locs hW => ?_)
  refine lv_icmp_eq (tgt := 1037) hx hb dL_law_846 (by decide) (fun _ => ?_) (fun q => absurd rfl q)
  exact kk σ' τ' H locs hC' hW
set_option maxHeartbeats 4000000 in
set_option maxRecDepth 100000 in
theorem lw_c27 {p : Program} {l : Launch} {e : Env} {s : State} {m : MethodId} {below : List Frame} {meth : Method} {c : Code} {Q : State → Prop} {D : va_G} {Y : Nat → ClassId} {A B : ss_A} {b L j : Nat} {xs : Nat → Int32} (S : CallFix p m c cL_law 4 s #[Value.ref b] lw_tbl RL) (C : LC D Y A B s) (hX : va_X b L xs s s.heap) (hbl : b < s.heap.size) (hL : L ≤ 448) (hj : 7 * j + 7 ≤ L) {σ τ : ss_M} (hC : Cpl j σ τ) {H : Heap} {locs : List Loc} (hW : LW D Y A B σ τ s H locs) {ls : Array Slot} (hl : lv_has ls 4 [(0, .ref b), (1, .ref (A 0 6 0)), (2, .ref (B 0 7 0)), (3, .int (nI (7 * j)))])
    (kk : ∀ (σ' τ' : ss_M) (H1 : Heap) (locs1 : List Loc), Cpl (j + 1) σ' τ' → LW D Y A B σ' τ' s H1 locs1 → W p l e room_1 s m #[Value.ref b] below meth c H1 locs1 600000 7302250 Q (F0 m 1037 ls [])) : W p l e room_1 s m #[Value.ref b] below meth c H locs 600000 7302250 Q (F0 m 851 ls []) := by
  obtain ⟨hx, hb, hml, hown, hts⟩ := id S
  have hbA : ¬ (fun q : Nat => s.heap.size ≤ q) b := Nat.not_le.mpr hbl
  obtain ⟨r, σ', τ', e1, e2, hC'⟩ := sim_odds hC (xs (nI (7 * j) + nI 1).toNatClampNeg)
  refine lv_aload_n hx hb dL_law_851 rfl (lv_at hl 1 rfl) ?_
  refine lv_aload_n hx hb dL_law_852 rfl (lv_at hl 0 rfl) ?_
  refine lv_iload_n hx hb dL_law_853 rfl (lv_at hl 3 rfl) ?_
  refine lv_iconst (v := nI 1) hx hb dL_law_854 (by decide) ?_
  refine lv_iadd hx hb dL_law_855 ?_
  refine va_sld hx hb hX hbl hbA hW.2.2 (lw_in hj hL (by decide)) dL_law_856 ?_
  refine lwx_i (As := [.int (xs (nI (7 * j) + nI 1).toNatClampNeg)]) (rest := []) S C (c_X7_odds l C.1 e1) (cwV 1 hts gL_law_X7_odds rfl rfl rfl hd_X7_odds ⟨(Nat.le_of_ble_eq_true rfl), (Nat.le_of_ble_eq_true rfl)⟩) hW rfl rfl hl.1 (Nat.le_of_ble_eq_true rfl) dL_law_857 (fun H locs hW => ?_)
  refine lv_aload_n hx hb dL_law_860 rfl (lv_at hl 2 rfl) ?_
  refine lv_aload_n hx hb dL_law_861 rfl (lv_at hl 0 rfl) ?_
  refine lv_iload_n hx hb dL_law_862 rfl (lv_at hl 3 rfl) ?_
  refine lv_iconst (v := nI 1) hx hb dL_law_863 (by decide) ?_
  refine lv_iadd hx hb dL_law_864 ?_
  refine va_sld hx hb hX hbl hbA hW.2.2 (lw_in hj hL (by decide)) dL_law_865 ?_
  refine lwm_i (As := [.int (xs (nI (7 * j) + nI 1).toNatClampNeg)]) (rest := [.int r]) S C (c_X8_odds l C.2.1 e2) (cwV 1 hts gL_law_X8_odds rfl rfl rfl hd_X8_odds ⟨(Nat.le_of_ble_eq_true rfl), (Nat.le_of_ble_eq_true rfl)⟩) hW rfl rfl hl.1 (Nat.le_of_ble_eq_true rfl) dL_law_866 (fun H locs hW => ?_)
  refine lv_icmp_eq (tgt := 1037) hx hb dL_law_869 (by decide) (fun _ => ?_) (fun q => absurd rfl q)
  exact kk σ' τ' H locs hC' hW
set_option maxHeartbeats 4000000 in
set_option maxRecDepth 100000 in
theorem lw_c28 {p : Program} {l : Launch} {e : Env} {s : State} {m : MethodId} {below : List Frame} {meth : Method} {c : Code} {Q : State → Prop} {D : va_G} {Y : Nat → ClassId} {A B : ss_A} {b L j : Nat} {xs : Nat → Int32} (S : CallFix p m c cL_law 4 s #[Value.ref b] lw_tbl RL) (C : LC D Y A B s) (hX : va_X b L xs s s.heap) (hbl : b < s.heap.size) (hL : L ≤ 448) (hj : 7 * j + 7 ≤ L) {σ τ : ss_M} (hC : Cpl j σ τ) {H : Heap} {locs : List Loc} (hW : LW D Y A B σ τ s H locs) {ls : Array Slot} (hl : lv_has ls 4 [(0, .ref b), (1, .ref (A 0 6 0)), (2, .ref (B 0 7 0)), (3, .int (nI (7 * j)))])
    (kk : ∀ (σ' τ' : ss_M) (H1 : Heap) (locs1 : List Loc), Cpl (j + 1) σ' τ' → LW D Y A B σ' τ' s H1 locs1 → W p l e room_1 s m #[Value.ref b] below meth c H1 locs1 600000 7302250 Q (F0 m 1037 ls [])) : W p l e room_1 s m #[Value.ref b] below meth c H locs 600000 7302250 Q (F0 m 874 ls []) := by
  obtain ⟨hx, hb, hml, hown, hts⟩ := id S
  have hbA : ¬ (fun q : Nat => s.heap.size ≤ q) b := Nat.not_le.mpr hbl
  obtain ⟨r, σ', τ', e1, e2, hC'⟩ := sim_drawn hC (xs (nI (7 * j) + nI 1).toNatClampNeg) (xs (nI (7 * j) + nI 2).toNatClampNeg)
  refine lv_aload_n hx hb dL_law_874 rfl (lv_at hl 1 rfl) ?_
  refine lv_aload_n hx hb dL_law_875 rfl (lv_at hl 0 rfl) ?_
  refine lv_iload_n hx hb dL_law_876 rfl (lv_at hl 3 rfl) ?_
  refine lv_iconst (v := nI 1) hx hb dL_law_877 (by decide) ?_
  refine lv_iadd hx hb dL_law_878 ?_
  refine va_sld hx hb hX hbl hbA hW.2.2 (lw_in hj hL (by decide)) dL_law_879 ?_
  refine lv_aload_n hx hb dL_law_880 rfl (lv_at hl 0 rfl) ?_
  refine lv_iload_n hx hb dL_law_881 rfl (lv_at hl 3 rfl) ?_
  refine lv_iconst (v := nI 2) hx hb dL_law_882 (by decide) ?_
  refine lv_iadd hx hb dL_law_883 ?_
  refine va_sld hx hb hX hbl hbA hW.2.2 (lw_in hj hL (by decide)) dL_law_884 ?_
  refine lwx_i (As := [.int (xs (nI (7 * j) + nI 1).toNatClampNeg), .int (xs (nI (7 * j) + nI 2).toNatClampNeg)]) (rest := []) S C (c_X7_drawn l C.1 e1) (cwV 2 hts gL_law_X7_drawn rfl rfl rfl hd_X7_drawn ⟨(Nat.le_of_ble_eq_true rfl), (Nat.le_of_ble_eq_true rfl)⟩) hW rfl rfl hl.1 (Nat.le_of_ble_eq_true rfl) dL_law_885 (fun H locs hW => ?_)
  refine lv_aload_n hx hb dL_law_888 rfl (lv_at hl 2 rfl) ?_
  refine lv_aload_n hx hb dL_law_889 rfl (lv_at hl 0 rfl) ?_
  refine lv_iload_n hx hb dL_law_890 rfl (lv_at hl 3 rfl) ?_
  refine lv_iconst (v := nI 1) hx hb dL_law_891 (by decide) ?_
  refine lv_iadd hx hb dL_law_892 ?_
  refine va_sld hx hb hX hbl hbA hW.2.2 (lw_in hj hL (by decide)) dL_law_893 ?_
  refine lv_aload_n hx hb dL_law_894 rfl (lv_at hl 0 rfl) ?_
  refine lv_iload_n hx hb dL_law_895 rfl (lv_at hl 3 rfl) ?_
  refine lv_iconst (v := nI 2) hx hb dL_law_896 (by decide) ?_
  refine lv_iadd hx hb dL_law_897 ?_
  refine va_sld hx hb hX hbl hbA hW.2.2 (lw_in hj hL (by decide)) dL_law_898 ?_
  refine lwm_i (As := [.int (xs (nI (7 * j) + nI 1).toNatClampNeg), .int (xs (nI (7 * j) + nI 2).toNatClampNeg)]) (rest := [.int r]) S C (c_X8_drawn l C.2.1 e2) (cwV 2 hts gL_law_X8_drawn rfl rfl rfl hd_X8_drawn ⟨(Nat.le_of_ble_eq_true rfl), (Nat.le_of_ble_eq_true rfl)⟩) hW rfl rfl hl.1 (Nat.le_of_ble_eq_true rfl) dL_law_899 (fun H locs hW => ?_)
  refine lv_icmp_eq (tgt := 1037) hx hb dL_law_902 (by decide) (fun _ => ?_) (fun q => absurd rfl q)
  exact kk σ' τ' H locs hC' hW
set_option maxHeartbeats 4000000 in
set_option maxRecDepth 100000 in
theorem lw_c29 {p : Program} {l : Launch} {e : Env} {s : State} {m : MethodId} {below : List Frame} {meth : Method} {c : Code} {Q : State → Prop} {D : va_G} {Y : Nat → ClassId} {A B : ss_A} {b L j : Nat} {xs : Nat → Int32} (S : CallFix p m c cL_law 4 s #[Value.ref b] lw_tbl RL) (C : LC D Y A B s) (hX : va_X b L xs s s.heap) (hbl : b < s.heap.size) (hL : L ≤ 448) (hj : 7 * j + 7 ≤ L) {σ τ : ss_M} (hC : Cpl j σ τ) {H : Heap} {locs : List Loc} (hW : LW D Y A B σ τ s H locs) {ls : Array Slot} (hl : lv_has ls 4 [(0, .ref b), (1, .ref (A 0 6 0)), (2, .ref (B 0 7 0)), (3, .int (nI (7 * j)))])
    (kk : ∀ (σ' τ' : ss_M) (H1 : Heap) (locs1 : List Loc), Cpl (j + 1) σ' τ' → LW D Y A B σ' τ' s H1 locs1 → W p l e room_1 s m #[Value.ref b] below meth c H1 locs1 600000 7302250 Q (F0 m 1037 ls [])) : W p l e room_1 s m #[Value.ref b] below meth c H locs 600000 7302250 Q (F0 m 907 ls []) := by
  obtain ⟨hx, hb, hml, hown, hts⟩ := id S
  have hbA : ¬ (fun q : Nat => s.heap.size ≤ q) b := Nat.not_le.mpr hbl
  obtain ⟨r, σ', τ', e1, e2, hC'⟩ := sim_part hC (xs (nI (7 * j) + nI 1).toNatClampNeg)
  refine lv_aload_n hx hb dL_law_907 rfl (lv_at hl 1 rfl) ?_
  refine lv_aload_n hx hb dL_law_908 rfl (lv_at hl 0 rfl) ?_
  refine lv_iload_n hx hb dL_law_909 rfl (lv_at hl 3 rfl) ?_
  refine lv_iconst (v := nI 1) hx hb dL_law_910 (by decide) ?_
  refine lv_iadd hx hb dL_law_911 ?_
  refine va_sld hx hb hX hbl hbA hW.2.2 (lw_in hj hL (by decide)) dL_law_912 ?_
  refine lwx_l (As := [.int (xs (nI (7 * j) + nI 1).toNatClampNeg)]) (rest := []) S C (c_X7_part l C.1 e1) (cwV 1 hts gL_law_X7_part rfl rfl rfl hd_X7_part ⟨(Nat.le_of_ble_eq_true rfl), (Nat.le_of_ble_eq_true rfl)⟩) hW rfl rfl hl.1 (Nat.le_of_ble_eq_true rfl) dL_law_913 (fun H locs hW => ?_)
  refine lv_aload_n hx hb dL_law_916 rfl (lv_at hl 2 rfl) ?_
  refine lv_aload_n hx hb dL_law_917 rfl (lv_at hl 0 rfl) ?_
  refine lv_iload_n hx hb dL_law_918 rfl (lv_at hl 3 rfl) ?_
  refine lv_iconst (v := nI 1) hx hb dL_law_919 (by decide) ?_
  refine lv_iadd hx hb dL_law_920 ?_
  refine va_sld hx hb hX hbl hbA hW.2.2 (lw_in hj hL (by decide)) dL_law_921 ?_
  refine lwm_l (As := [.int (xs (nI (7 * j) + nI 1).toNatClampNeg)]) (rest := [.long r]) S C (c_X8_part l C.2.1 e2) (cwV 1 hts gL_law_X8_part rfl rfl rfl hd_X8_part ⟨(Nat.le_of_ble_eq_true rfl), (Nat.le_of_ble_eq_true rfl)⟩) hW rfl rfl hl.1 (Nat.le_of_ble_eq_true rfl) dL_law_922 (fun H locs hW => ?_)
  refine W.lcmp hx hb dL_law_925 ?_
  refine lv_if_eq (tgt := 1037) hx hb dL_law_926 (by decide) (fun _ => ?_) (fun q => absurd (lcmp_same r) q)
  exact kk σ' τ' H locs hC' hW
set_option maxHeartbeats 4000000 in
set_option maxRecDepth 100000 in
theorem lw_c30 {p : Program} {l : Launch} {e : Env} {s : State} {m : MethodId} {below : List Frame} {meth : Method} {c : Code} {Q : State → Prop} {D : va_G} {Y : Nat → ClassId} {A B : ss_A} {b L j : Nat} {xs : Nat → Int32} (S : CallFix p m c cL_law 4 s #[Value.ref b] lw_tbl RL) (C : LC D Y A B s) (hX : va_X b L xs s s.heap) (hbl : b < s.heap.size) (hL : L ≤ 448) (hj : 7 * j + 7 ≤ L) {σ τ : ss_M} (hC : Cpl j σ τ) {H : Heap} {locs : List Loc} (hW : LW D Y A B σ τ s H locs) {ls : Array Slot} (hl : lv_has ls 4 [(0, .ref b), (1, .ref (A 0 6 0)), (2, .ref (B 0 7 0)), (3, .int (nI (7 * j)))])
    (kk : ∀ (σ' τ' : ss_M) (H1 : Heap) (locs1 : List Loc), Cpl (j + 1) σ' τ' → LW D Y A B σ' τ' s H1 locs1 → W p l e room_1 s m #[Value.ref b] below meth c H1 locs1 600000 7302250 Q (F0 m 1037 ls [])) : W p l e room_1 s m #[Value.ref b] below meth c H locs 600000 7302250 Q (F0 m 931 ls []) := by
  obtain ⟨hx, hb, hml, hown, hts⟩ := id S
  have hbA : ¬ (fun q : Nat => s.heap.size ≤ q) b := Nat.not_le.mpr hbl
  obtain ⟨r, σ', τ', e1, e2, hC'⟩ := sim_image hC (xs (nI (7 * j) + nI 1).toNatClampNeg)
  refine lv_aload_n hx hb dL_law_931 rfl (lv_at hl 1 rfl) ?_
  refine lv_aload_n hx hb dL_law_932 rfl (lv_at hl 0 rfl) ?_
  refine lv_iload_n hx hb dL_law_933 rfl (lv_at hl 3 rfl) ?_
  refine lv_iconst (v := nI 1) hx hb dL_law_934 (by decide) ?_
  refine lv_iadd hx hb dL_law_935 ?_
  refine va_sld hx hb hX hbl hbA hW.2.2 (lw_in hj hL (by decide)) dL_law_936 ?_
  refine lwx_i (As := [.int (xs (nI (7 * j) + nI 1).toNatClampNeg)]) (rest := []) S C (c_X7_image l C.1 e1) (cwV 1 hts gL_law_X7_image rfl rfl rfl hd_X7_image ⟨(Nat.le_of_ble_eq_true rfl), (Nat.le_of_ble_eq_true rfl)⟩) hW rfl rfl hl.1 (Nat.le_of_ble_eq_true rfl) dL_law_937 (fun H locs hW => ?_)
  refine lv_aload_n hx hb dL_law_940 rfl (lv_at hl 2 rfl) ?_
  refine lv_aload_n hx hb dL_law_941 rfl (lv_at hl 0 rfl) ?_
  refine lv_iload_n hx hb dL_law_942 rfl (lv_at hl 3 rfl) ?_
  refine lv_iconst (v := nI 1) hx hb dL_law_943 (by decide) ?_
  refine lv_iadd hx hb dL_law_944 ?_
  refine va_sld hx hb hX hbl hbA hW.2.2 (lw_in hj hL (by decide)) dL_law_945 ?_
  refine lwm_i (As := [.int (xs (nI (7 * j) + nI 1).toNatClampNeg)]) (rest := [.int r]) S C (c_X8_image l C.2.1 e2) (cwV 1 hts gL_law_X8_image rfl rfl rfl hd_X8_image ⟨(Nat.le_of_ble_eq_true rfl), (Nat.le_of_ble_eq_true rfl)⟩) hW rfl rfl hl.1 (Nat.le_of_ble_eq_true rfl) dL_law_946 (fun H locs hW => ?_)
  refine lv_icmp_eq (tgt := 1037) hx hb dL_law_949 (by decide) (fun _ => ?_) (fun q => absurd rfl q)
  exact kk σ' τ' H locs hC' hW
set_option maxHeartbeats 4000000 in
set_option maxRecDepth 100000 in
theorem lw_c31 {p : Program} {l : Launch} {e : Env} {s : State} {m : MethodId} {below : List Frame} {meth : Method} {c : Code} {Q : State → Prop} {D : va_G} {Y : Nat → ClassId} {A B : ss_A} {b L j : Nat} {xs : Nat → Int32} (S : CallFix p m c cL_law 4 s #[Value.ref b] lw_tbl RL) (C : LC D Y A B s) (hX : va_X b L xs s s.heap) (hbl : b < s.heap.size) (hL : L ≤ 448) (hj : 7 * j + 7 ≤ L) {σ τ : ss_M} (hC : Cpl j σ τ) {H : Heap} {locs : List Loc} (hW : LW D Y A B σ τ s H locs) {ls : Array Slot} (hl : lv_has ls 4 [(0, .ref b), (1, .ref (A 0 6 0)), (2, .ref (B 0 7 0)), (3, .int (nI (7 * j)))])
    (kk : ∀ (σ' τ' : ss_M) (H1 : Heap) (locs1 : List Loc), Cpl (j + 1) σ' τ' → LW D Y A B σ' τ' s H1 locs1 → W p l e room_1 s m #[Value.ref b] below meth c H1 locs1 600000 7302250 Q (F0 m 1037 ls [])) : W p l e room_1 s m #[Value.ref b] below meth c H locs 600000 7302250 Q (F0 m 954 ls []) := by
  obtain ⟨hx, hb, hml, hown, hts⟩ := id S
  have hbA : ¬ (fun q : Nat => s.heap.size ≤ q) b := Nat.not_le.mpr hbl
  obtain ⟨r, σ', τ', e1, e2, hC'⟩ := sim_from hC (xs (nI (7 * j) + nI 1).toNatClampNeg)
  refine lv_aload_n hx hb dL_law_954 rfl (lv_at hl 1 rfl) ?_
  refine lv_aload_n hx hb dL_law_955 rfl (lv_at hl 0 rfl) ?_
  refine lv_iload_n hx hb dL_law_956 rfl (lv_at hl 3 rfl) ?_
  refine lv_iconst (v := nI 1) hx hb dL_law_957 (by decide) ?_
  refine lv_iadd hx hb dL_law_958 ?_
  refine va_sld hx hb hX hbl hbA hW.2.2 (lw_in hj hL (by decide)) dL_law_959 ?_
  refine lwx_i (As := [.int (xs (nI (7 * j) + nI 1).toNatClampNeg)]) (rest := []) S C (c_X7_from l C.1 e1) (cwV 1 hts gL_law_X7_from rfl rfl rfl hd_X7_from ⟨(Nat.le_of_ble_eq_true rfl), (Nat.le_of_ble_eq_true rfl)⟩) hW rfl rfl hl.1 (Nat.le_of_ble_eq_true rfl) dL_law_960 (fun H locs hW => ?_)
  refine lv_aload_n hx hb dL_law_963 rfl (lv_at hl 2 rfl) ?_
  refine lv_aload_n hx hb dL_law_964 rfl (lv_at hl 0 rfl) ?_
  refine lv_iload_n hx hb dL_law_965 rfl (lv_at hl 3 rfl) ?_
  refine lv_iconst (v := nI 1) hx hb dL_law_966 (by decide) ?_
  refine lv_iadd hx hb dL_law_967 ?_
  refine va_sld hx hb hX hbl hbA hW.2.2 (lw_in hj hL (by decide)) dL_law_968 ?_
  refine lwm_i (As := [.int (xs (nI (7 * j) + nI 1).toNatClampNeg)]) (rest := [.int r]) S C (c_X8_from l C.2.1 e2) (cwV 1 hts gL_law_X8_from rfl rfl rfl hd_X8_from ⟨(Nat.le_of_ble_eq_true rfl), (Nat.le_of_ble_eq_true rfl)⟩) hW rfl rfl hl.1 (Nat.le_of_ble_eq_true rfl) dL_law_969 (fun H locs hW => ?_)
  refine lv_icmp_eq (tgt := 1037) hx hb dL_law_972 (by decide) (fun _ => ?_) (fun q => absurd rfl q)
  exact kk σ' τ' H locs hC' hW
set_option maxHeartbeats 4000000 in
set_option maxRecDepth 100000 in
theorem lw_c32 {p : Program} {l : Launch} {e : Env} {s : State} {m : MethodId} {below : List Frame} {meth : Method} {c : Code} {Q : State → Prop} {D : va_G} {Y : Nat → ClassId} {A B : ss_A} {b L j : Nat} {xs : Nat → Int32} (S : CallFix p m c cL_law 4 s #[Value.ref b] lw_tbl RL) (C : LC D Y A B s) (hX : va_X b L xs s s.heap) (hbl : b < s.heap.size) (hL : L ≤ 448) (hj : 7 * j + 7 ≤ L) {σ τ : ss_M} (hC : Cpl j σ τ) {H : Heap} {locs : List Loc} (hW : LW D Y A B σ τ s H locs) {ls : Array Slot} (hl : lv_has ls 4 [(0, .ref b), (1, .ref (A 0 6 0)), (2, .ref (B 0 7 0)), (3, .int (nI (7 * j)))])
    (kk : ∀ (σ' τ' : ss_M) (H1 : Heap) (locs1 : List Loc), Cpl (j + 1) σ' τ' → LW D Y A B σ' τ' s H1 locs1 → W p l e room_1 s m #[Value.ref b] below meth c H1 locs1 600000 7302250 Q (F0 m 1037 ls [])) : W p l e room_1 s m #[Value.ref b] below meth c H locs 600000 7302250 Q (F0 m 977 ls []) := by
  obtain ⟨hx, hb, hml, hown, hts⟩ := id S
  have hbA : ¬ (fun q : Nat => s.heap.size ≤ q) b := Nat.not_le.mpr hbl
  obtain ⟨r, σ', τ', e1, e2, hC'⟩ := sim_status hC (xs (nI (7 * j) + nI 1).toNatClampNeg)
  refine lv_aload_n hx hb dL_law_977 rfl (lv_at hl 1 rfl) ?_
  refine lv_aload_n hx hb dL_law_978 rfl (lv_at hl 0 rfl) ?_
  refine lv_iload_n hx hb dL_law_979 rfl (lv_at hl 3 rfl) ?_
  refine lv_iconst (v := nI 1) hx hb dL_law_980 (by decide) ?_
  refine lv_iadd hx hb dL_law_981 ?_
  refine va_sld hx hb hX hbl hbA hW.2.2 (lw_in hj hL (by decide)) dL_law_982 ?_
  refine lwx_i (As := [.int (xs (nI (7 * j) + nI 1).toNatClampNeg)]) (rest := []) S C (c_X7_status l C.1 e1) (cwV 1 hts gL_law_X7_status rfl rfl rfl hd_X7_status ⟨(Nat.le_of_ble_eq_true rfl), (Nat.le_of_ble_eq_true rfl)⟩) hW rfl rfl hl.1 (Nat.le_of_ble_eq_true rfl) dL_law_983 (fun H locs hW => ?_)
  refine lv_aload_n hx hb dL_law_986 rfl (lv_at hl 2 rfl) ?_
  refine lv_aload_n hx hb dL_law_987 rfl (lv_at hl 0 rfl) ?_
  refine lv_iload_n hx hb dL_law_988 rfl (lv_at hl 3 rfl) ?_
  refine lv_iconst (v := nI 1) hx hb dL_law_989 (by decide) ?_
  refine lv_iadd hx hb dL_law_990 ?_
  refine va_sld hx hb hX hbl hbA hW.2.2 (lw_in hj hL (by decide)) dL_law_991 ?_
  refine lwm_i (As := [.int (xs (nI (7 * j) + nI 1).toNatClampNeg)]) (rest := [.int r]) S C (c_X8_status l C.2.1 e2) (cwV 1 hts gL_law_X8_status rfl rfl rfl hd_X8_status ⟨(Nat.le_of_ble_eq_true rfl), (Nat.le_of_ble_eq_true rfl)⟩) hW rfl rfl hl.1 (Nat.le_of_ble_eq_true rfl) dL_law_992 (fun H locs hW => ?_)
  refine lv_icmp_eq (tgt := 1037) hx hb dL_law_995 (by decide) (fun _ => ?_) (fun q => absurd rfl q)
  exact kk σ' τ' H locs hC' hW
set_option maxHeartbeats 4000000 in
set_option maxRecDepth 100000 in
theorem lw_c33 {p : Program} {l : Launch} {e : Env} {s : State} {m : MethodId} {below : List Frame} {meth : Method} {c : Code} {Q : State → Prop} {D : va_G} {Y : Nat → ClassId} {A B : ss_A} {b L j : Nat} {xs : Nat → Int32} (S : CallFix p m c cL_law 4 s #[Value.ref b] lw_tbl RL) (C : LC D Y A B s) (hX : va_X b L xs s s.heap) (hbl : b < s.heap.size) (hL : L ≤ 448) (hj : 7 * j + 7 ≤ L) {σ τ : ss_M} (hC : Cpl j σ τ) {H : Heap} {locs : List Loc} (hW : LW D Y A B σ τ s H locs) {ls : Array Slot} (hl : lv_has ls 4 [(0, .ref b), (1, .ref (A 0 6 0)), (2, .ref (B 0 7 0)), (3, .int (nI (7 * j)))])
    (kk : ∀ (σ' τ' : ss_M) (H1 : Heap) (locs1 : List Loc), Cpl (j + 1) σ' τ' → LW D Y A B σ' τ' s H1 locs1 → W p l e room_1 s m #[Value.ref b] below meth c H1 locs1 600000 7302250 Q (F0 m 1037 ls [])) : W p l e room_1 s m #[Value.ref b] below meth c H locs 600000 7302250 Q (F0 m 1000 ls []) := by
  obtain ⟨hx, hb, hml, hown, hts⟩ := id S
  have hbA : ¬ (fun q : Nat => s.heap.size ≤ q) b := Nat.not_le.mpr hbl
  obtain ⟨r, σ', τ', e1, e2, hC'⟩ := sim_count hC (xs (nI (7 * j) + nI 1).toNatClampNeg)
  refine lv_aload_n hx hb dL_law_1000 rfl (lv_at hl 1 rfl) ?_
  refine lv_aload_n hx hb dL_law_1001 rfl (lv_at hl 0 rfl) ?_
  refine lv_iload_n hx hb dL_law_1002 rfl (lv_at hl 3 rfl) ?_
  refine lv_iconst (v := nI 1) hx hb dL_law_1003 (by decide) ?_
  refine lv_iadd hx hb dL_law_1004 ?_
  refine va_sld hx hb hX hbl hbA hW.2.2 (lw_in hj hL (by decide)) dL_law_1005 ?_
  refine lwx_i (As := [.int (xs (nI (7 * j) + nI 1).toNatClampNeg)]) (rest := []) S C (c_X7_count l C.1 e1) (cwV 1 hts gL_law_X7_count rfl rfl rfl hd_X7_count ⟨(Nat.le_of_ble_eq_true rfl), (Nat.le_of_ble_eq_true rfl)⟩) hW rfl rfl hl.1 (Nat.le_of_ble_eq_true rfl) dL_law_1006 (fun H locs hW => ?_)
  refine lv_aload_n hx hb dL_law_1009 rfl (lv_at hl 2 rfl) ?_
  refine lv_aload_n hx hb dL_law_1010 rfl (lv_at hl 0 rfl) ?_
  refine lv_iload_n hx hb dL_law_1011 rfl (lv_at hl 3 rfl) ?_
  refine lv_iconst (v := nI 1) hx hb dL_law_1012 (by decide) ?_
  refine lv_iadd hx hb dL_law_1013 ?_
  refine va_sld hx hb hX hbl hbA hW.2.2 (lw_in hj hL (by decide)) dL_law_1014 ?_
  refine lwm_i (As := [.int (xs (nI (7 * j) + nI 1).toNatClampNeg)]) (rest := [.int r]) S C (c_X8_count l C.2.1 e2) (cwV 1 hts gL_law_X8_count rfl rfl rfl hd_X8_count ⟨(Nat.le_of_ble_eq_true rfl), (Nat.le_of_ble_eq_true rfl)⟩) hW rfl rfl hl.1 (Nat.le_of_ble_eq_true rfl) dL_law_1015 (fun H locs hW => ?_)
  refine lv_icmp_eq (tgt := 1037) hx hb dL_law_1018 (by decide) (fun _ => ?_) (fun q => absurd rfl q)
  exact kk σ' τ' H locs hC' hW
set_option maxHeartbeats 4000000 in
set_option maxRecDepth 100000 in
theorem lw_c34 {p : Program} {l : Launch} {e : Env} {s : State} {m : MethodId} {below : List Frame} {meth : Method} {c : Code} {Q : State → Prop} {D : va_G} {Y : Nat → ClassId} {A B : ss_A} {b L j : Nat} {xs : Nat → Int32} (S : CallFix p m c cL_law 4 s #[Value.ref b] lw_tbl RL) (C : LC D Y A B s) (hX : va_X b L xs s s.heap) (hbl : b < s.heap.size) (hL : L ≤ 448) (hj : 7 * j + 7 ≤ L) {σ τ : ss_M} (hC : Cpl j σ τ) {H : Heap} {locs : List Loc} (hW : LW D Y A B σ τ s H locs) {ls : Array Slot} (hl : lv_has ls 4 [(0, .ref b), (1, .ref (A 0 6 0)), (2, .ref (B 0 7 0)), (3, .int (nI (7 * j)))])
    (kk : ∀ (σ' τ' : ss_M) (H1 : Heap) (locs1 : List Loc), Cpl (j + 1) σ' τ' → LW D Y A B σ' τ' s H1 locs1 → W p l e room_1 s m #[Value.ref b] below meth c H1 locs1 600000 7302250 Q (F0 m 1037 ls [])) : W p l e room_1 s m #[Value.ref b] below meth c H locs 600000 7302250 Q (F0 m 1023 ls []) := by
  obtain ⟨hx, hb, hml, hown, hts⟩ := id S
  have hbA : ¬ (fun q : Nat => s.heap.size ≤ q) b := Nat.not_le.mpr hbl
  obtain ⟨r, σ', τ', e1, e2, hC'⟩ := sim_digest hC 
  refine lv_aload_n hx hb dL_law_1023 rfl (lv_at hl 1 rfl) ?_
  refine lwx_l (As := []) (rest := []) S C (c_X7_digest l C.1 e1) (cwV 0 hts gL_law_X7_digest rfl rfl rfl hd_X7_digest ⟨(Nat.le_of_ble_eq_true rfl), (Nat.le_of_ble_eq_true rfl)⟩) hW rfl rfl hl.1 (Nat.le_of_ble_eq_true rfl) dL_law_1024 (fun H locs hW => ?_)
  refine lv_aload_n hx hb dL_law_1027 rfl (lv_at hl 2 rfl) ?_
  refine lwm_l (As := []) (rest := [.long r]) S C (c_X8_digest l C.2.1 e2) (cwV 0 hts gL_law_X8_digest rfl rfl rfl hd_X8_digest ⟨(Nat.le_of_ble_eq_true rfl), (Nat.le_of_ble_eq_true rfl)⟩) hW rfl rfl hl.1 (Nat.le_of_ble_eq_true rfl) dL_law_1028 (fun H locs hW => ?_)
  refine W.lcmp hx hb dL_law_1031 ?_
  refine lv_if_eq (tgt := 1037) hx hb dL_law_1032 (by decide) (fun _ => ?_) (fun q => absurd (lcmp_same r) q)
  exact kk σ' τ' H locs hC' hW
