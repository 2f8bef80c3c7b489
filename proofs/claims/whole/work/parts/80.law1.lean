/-! THE LAW'S CASES (laid by wip/gen/law.py) -/
/-- what stays through the whole law -/
def LC (D : va_G) (Y : Nat → ClassId) (A B : ss_A) (s : State) : Prop := AD 0 A ∧ AD 1 B ∧ va_K D vwCl (tyL Y) s ∧ EX 0 A s ∧ (∀ q, FA 0 A q → s.heap.size ≤ q) ∧ (∀ q, FA 1 B q → s.heap.size ≤ q) ∧ ∀ q, FA 0 A q → ¬ FA 1 B q
/-- both sides' worlds -/
def LW (D : va_G) (Y : Nat → ClassId) (A B : ss_A) (σ τ : ss_M) (s : State) (H : Heap) (locs : List Loc) : Prop := va_P D vwCl (wsO 0 Y A σ) H ∧ va_P D vwCl (wsO 1 Y B τ) H ∧ va_S (fun q => s.heap.size ≤ q) s.heap H locs
theorem LC.ex {D : va_G} {Y : Nat → ClassId} {A B : ss_A} {s : State} (C : LC D Y A B s) {H : Heap} {locs : List Loc} (hS : va_S (fun q => s.heap.size ≤ q) s.heap H locs) : ∀ U : State, U.heap = H → s.WarmedH U.vm → EX 0 A U := fun U hU hw => C.2.2.2.1.next (locs := []) hw ⟨by rw [hU]; exact hS.1, fun q h1 _ => by rw [hU]; exact hS.2.1 q h1 (Nat.not_le.mpr h1), fun l h => by cases h⟩
theorem wsO_in {w : Nat} {D : va_G} {Y : Nat → ClassId} {A : ss_A} {σ : ss_M} {H : Heap} (hP : va_P D vwCl (wsO w Y A σ) H) {k : Nat} {q : Nat × va_E} (h : (wsO w Y A σ)[k]? = some q) : FA w A q.1 ∧ q.1 < H.size := by
  obtain ⟨x, h1, h2, rfl⟩ := ws_of h
  exact ⟨⟨x, h2, rfl⟩, (hP k _ h).lt⟩
theorem LW.x {D : va_G} {Y : Nat → ClassId} {A B : ss_A} {σ σ' τ : ss_M} {s : State} {H H1 : Heap} {locs locs1 : List Loc} (C : LC D Y A B s) (h : LW D Y A B σ τ s H locs) (hP : va_P D vwCl (wsO 0 Y A σ') H1) (hk : ∀ q : Nat, q < H.size → ¬ FA 0 A q → H1[q]? = H[q]?) (hS : va_S (fun q => s.heap.size ≤ q) s.heap H1 locs1) : LW D Y A B σ' τ s H1 locs1 :=
  ⟨hP, h.2.1.kept (fun k q hq => by obtain ⟨g1, g2⟩ := wsO_in h.2.1 hq; exact hk q.1 g2 (fun z => C.2.2.2.2.2.2 _ z g1)), hS⟩
theorem LW.m {D : va_G} {Y : Nat → ClassId} {A B : ss_A} {σ τ τ' : ss_M} {s : State} {H H1 : Heap} {locs locs1 : List Loc} (C : LC D Y A B s) (h : LW D Y A B σ τ s H locs) (hP : va_P D vwCl (wsO 1 Y B τ') H1) (hk : ∀ q : Nat, q < H.size → ¬ FA 1 B q → H1[q]? = H[q]?) (hS : va_S (fun q => s.heap.size ≤ q) s.heap H1 locs1) : LW D Y A B σ τ' s H1 locs1 :=
  ⟨h.1.kept (fun k q hq => by obtain ⟨g1, g2⟩ := wsO_in h.1 hq; exact hk q.1 g2 (fun z => C.2.2.2.2.2.2 _ g1 z)), hP, hS⟩
theorem lw_in {j L k : Nat} (h : 7 * j + 7 ≤ L) (hL : L ≤ 448) (hk : k < 7) : vp_in (nI (7 * j) + nI k) L := by
  rw [nI_add]
  exact vp_in_nI (by omega) (by omega)
theorem lw_in0 {j L : Nat} (h : 7 * j + 7 ≤ L) (hL : L ≤ 448) : vp_in (nI (7 * j)) L := vp_in_nI (by omega) (by omega)
section LWC
variable {p : Program} {l : Launch} {e : Env} {s : State} {m : MethodId} {args : Array Value} {below : List Frame} {meth : Method} {c : Code} {H : Heap} {locs : List Loc} {Q : State → Prop}
variable {pc : Nat} {ls : Array Slot} {rest : List Value} {D : va_G} {Y : Nat → ClassId} {A B : ss_A} {σ τ : ss_M}
theorem lwx_i {n index maxL : Nat} {y : MethodName} {bytes : ByteArray} {ret : Option FieldType} {ws : List Cond} {rm : Room} {As st0 : List Value} {σ' : ss_M} {r : Int32} (S : CallFix p m c cL_law 4 s args lw_tbl RL) (C : LC D Y A B s) (hM : Met l y ws rm (Pc0 0 D Y A σ (.ref (A 0 6 0) :: As)) (Qi0 0 D Y A r σ') 0 0 (FA 0 A)) (cw : CallW room_1 s args RL RX7 index y bytes maxL ret ws rm 0 0 n) (hW : LW D Y A B σ τ s H locs) (hst : st0 = As.reverse ++ .ref (A 0 6 0) :: rest) (hn : As.length = n) (hsz : ls.size = 4) (hR : (rest.map fun v => v.category).sum ≤ 8) (hdg : decode cL_law pc = .ok (.invokevirtual index, 3)) (kk : ∀ (H1 : Heap) (locs1 : List Loc), LW D Y A B σ' τ s H1 locs1 → W p l e room_1 s m args below meth c H1 locs1 600000 7302250 Q (F0 m (pc + 3) ls (.int r :: rest))) : W p l e room_1 s m args below meth c H locs 600000 7302250 Q (F0 m pc ls st0) :=
  oc_i (A := A) (w := 0) (ci := 6) (o := 0) S hM cw C.2.2.1 hW.1 (C.ex hW.2.2) C.2.2.2.2.1 hW.2.2 (kS_in (by decide)) rfl hst hn hsz hR ⟨Nat.le_of_ble_eq_true rfl, Nat.le_of_ble_eq_true rfl⟩ hdg (fun H1 locs1 hP _ hk hS => kk H1 locs1 (hW.x C hP hk hS))
theorem lwm_i {n index maxL : Nat} {y : MethodName} {bytes : ByteArray} {ret : Option FieldType} {ws : List Cond} {rm : Room} {As st0 : List Value} {τ' : ss_M} {r : Int32} (S : CallFix p m c cL_law 4 s args lw_tbl RL) (C : LC D Y A B s) (hM : Met l y ws rm (Pc0 1 D Y B τ (.ref (B 0 7 0) :: As)) (Qi0 1 D Y B r τ') 0 0 (FA 1 B)) (cw : CallW room_1 s args RL RX8 index y bytes maxL ret ws rm 0 0 n) (hW : LW D Y A B σ τ s H locs) (hst : st0 = As.reverse ++ .ref (B 0 7 0) :: rest) (hn : As.length = n) (hsz : ls.size = 4) (hR : (rest.map fun v => v.category).sum ≤ 8) (hdg : decode cL_law pc = .ok (.invokevirtual index, 3)) (kk : ∀ (H1 : Heap) (locs1 : List Loc), LW D Y A B σ τ' s H1 locs1 → W p l e room_1 s m args below meth c H1 locs1 600000 7302250 Q (F0 m (pc + 3) ls (.int r :: rest))) : W p l e room_1 s m args below meth c H locs 600000 7302250 Q (F0 m pc ls st0) :=
  oc_i (A := B) (w := 1) (ci := 7) (o := 0) S hM cw C.2.2.1 hW.2.1 (fun _ _ _ h0 => absurd h0 (by decide)) C.2.2.2.2.2.1 hW.2.2 (kS_in (by decide)) rfl hst hn hsz hR ⟨Nat.le_of_ble_eq_true rfl, Nat.le_of_ble_eq_true rfl⟩ hdg (fun H1 locs1 hP _ hk hS => kk H1 locs1 (hW.m C hP hk hS))
theorem lwx_l {n index maxL : Nat} {y : MethodName} {bytes : ByteArray} {ret : Option FieldType} {ws : List Cond} {rm : Room} {As st0 : List Value} {σ' : ss_M} {r : Int64} (S : CallFix p m c cL_law 4 s args lw_tbl RL) (C : LC D Y A B s) (hM : Met l y ws rm (Pc0 0 D Y A σ (.ref (A 0 6 0) :: As)) (Ql0 0 D Y A r σ') 0 0 (FA 0 A)) (cw : CallW room_1 s args RL RX7 index y bytes maxL ret ws rm 0 0 n) (hW : LW D Y A B σ τ s H locs) (hst : st0 = As.reverse ++ .ref (A 0 6 0) :: rest) (hn : As.length = n) (hsz : ls.size = 4) (hR : (rest.map fun v => v.category).sum ≤ 8) (hdg : decode cL_law pc = .ok (.invokevirtual index, 3)) (kk : ∀ (H1 : Heap) (locs1 : List Loc), LW D Y A B σ' τ s H1 locs1 → W p l e room_1 s m args below meth c H1 locs1 600000 7302250 Q (F0 m (pc + 3) ls (.long r :: rest))) : W p l e room_1 s m args below meth c H locs 600000 7302250 Q (F0 m pc ls st0) :=
  oc_l (A := A) (w := 0) (ci := 6) (o := 0) S hM cw C.2.2.1 hW.1 (C.ex hW.2.2) C.2.2.2.2.1 hW.2.2 (kS_in (by decide)) rfl hst hn hsz hR ⟨Nat.le_of_ble_eq_true rfl, Nat.le_of_ble_eq_true rfl⟩ hdg (fun H1 locs1 hP _ hk hS => kk H1 locs1 (hW.x C hP hk hS))
theorem lwm_l {n index maxL : Nat} {y : MethodName} {bytes : ByteArray} {ret : Option FieldType} {ws : List Cond} {rm : Room} {As st0 : List Value} {τ' : ss_M} {r : Int64} (S : CallFix p m c cL_law 4 s args lw_tbl RL) (C : LC D Y A B s) (hM : Met l y ws rm (Pc0 1 D Y B τ (.ref (B 0 7 0) :: As)) (Ql0 1 D Y B r τ') 0 0 (FA 1 B)) (cw : CallW room_1 s args RL RX8 index y bytes maxL ret ws rm 0 0 n) (hW : LW D Y A B σ τ s H locs) (hst : st0 = As.reverse ++ .ref (B 0 7 0) :: rest) (hn : As.length = n) (hsz : ls.size = 4) (hR : (rest.map fun v => v.category).sum ≤ 8) (hdg : decode cL_law pc = .ok (.invokevirtual index, 3)) (kk : ∀ (H1 : Heap) (locs1 : List Loc), LW D Y A B σ τ' s H1 locs1 → W p l e room_1 s m args below meth c H1 locs1 600000 7302250 Q (F0 m (pc + 3) ls (.long r :: rest))) : W p l e room_1 s m args below meth c H locs 600000 7302250 Q (F0 m pc ls st0) :=
  oc_l (A := B) (w := 1) (ci := 7) (o := 0) S hM cw C.2.2.1 hW.2.1 (fun _ _ _ h0 => absurd h0 (by decide)) C.2.2.2.2.2.1 hW.2.2 (kS_in (by decide)) rfl hst hn hsz hR ⟨Nat.le_of_ble_eq_true rfl, Nat.le_of_ble_eq_true rfl⟩ hdg (fun H1 locs1 hP _ hk hS => kk H1 locs1 (hW.m C hP hk hS))
end LWC
theorem lcmp_same (r : Int64) : lg_cmp r r = 0 := by
  simp [lg_cmp]
set_option maxHeartbeats 4000000 in
set_option maxRecDepth 100000 in
theorem lw_c0 {p : Program} {l : Launch} {e : Env} {s : State} {m : MethodId} {below : List Frame} {meth : Method} {c : Code} {Q : State → Prop} {D : va_G} {Y : Nat → ClassId} {A B : ss_A} {b L j : Nat} {xs : Nat → Int32} (S : CallFix p m c cL_law 4 s #[Value.ref b] lw_tbl RL) (C : LC D Y A B s) (hX : va_X b L xs s s.heap) (hbl : b < s.heap.size) (hL : L ≤ 448) (hj : 7 * j + 7 ≤ L) {σ τ : ss_M} (hC : Cpl j σ τ) {H : Heap} {locs : List Loc} (hW : LW D Y A B σ τ s H locs) {ls : Array Slot} (hl : lv_has ls 4 [(0, .ref b), (1, .ref (A 0 6 0)), (2, .ref (B 0 7 0)), (3, .int (nI (7 * j)))])
    (kk : ∀ (σ' τ' : ss_M) (H1 : Heap) (locs1 : List Loc), Cpl (j + 1) σ' τ' → LW D Y A B σ' τ' s H1 locs1 → W p l e room_1 s m #[Value.ref b] below meth c H1 locs1 600000 7302250 Q (F0 m 1037 ls [])) : W p l e room_1 s m #[Value.ref b] below meth c H locs 600000 7302250 Q (F0 m 188 ls []) := by
  obtain ⟨hx, hb, hml, hown, hts⟩ := id S
  have hbA : ¬ (fun q : Nat => s.heap.size ≤ q) b := Nat.not_le.mpr hbl
  obtain ⟨r, σ', τ', e1, e2, hC'⟩ := sim_page hC (xs (nI (7 * j) + nI 1).toNatClampNeg) (xs (nI (7 * j) + nI 2).toNatClampNeg)
  refine lv_aload_n hx hb dL_law_188 rfl (lv_at hl 1 rfl) ?_
  refine lv_aload_n hx hb dL_law_189 rfl (lv_at hl 0 rfl) ?_
  refine lv_iload_n hx hb dL_law_190 rfl (lv_at hl 3 rfl) ?_
  refine lv_iconst (v := nI 1) hx hb dL_law_191 (by decide) ?_
  refine lv_iadd hx hb dL_law_192 ?_
  refine va_sld hx hb hX hbl hbA hW.2.2 (lw_in hj hL (by decide)) dL_law_193 ?_
  refine lv_aload_n hx hb dL_law_194 rfl (lv_at hl 0 rfl) ?_
  refine lv_iload_n hx hb dL_law_195 rfl (lv_at hl 3 rfl) ?_
  refine lv_iconst (v := nI 2) hx hb dL_law_196 (by decide) ?_
  refine lv_iadd hx hb dL_law_197 ?_
  refine va_sld hx hb hX hbl hbA hW.2.2 (lw_in hj hL (by decide)) dL_law_198 ?_
  refine lwx_i (As := [.int (xs (nI (7 * j) + nI 1).toNatClampNeg), .int (xs (nI (7 * j) + nI 2).toNatClampNeg)]) (rest := []) S C (c_X7_page l C.1 e1) (cwV 2 hts gL_law_X7_page rfl rfl rfl hd_X7_page ⟨(Nat.le_of_ble_eq_true rfl), (Nat.le_of_ble_eq_true rfl)⟩) hW rfl rfl hl.1 (Nat.le_of_ble_eq_true rfl) dL_law_199 (fun H locs hW => ?_)
  refine lv_aload_n hx hb dL_law_202 rfl (lv_at hl 2 rfl) ?_
  refine lv_aload_n hx hb dL_law_203 rfl (lv_at hl 0 rfl) ?_
  refine lv_iload_n hx hb dL_law_204 rfl (lv_at hl 3 rfl) ?_
  refine lv_iconst (v := nI 1) hx hb dL_law_205 (by decide) ?_
  refine lv_iadd hx hb dL_law_206 ?_
  refine va_sld hx hb hX hbl hbA hW.2.2 (lw_in hj hL (by decide)) dL_law_207 ?_
  refine lv_aload_n hx hb dL_law_208 rfl (lv_at hl 0 rfl) ?_
  refine lv_iload_n hx hb dL_law_209 rfl (lv_at hl 3 rfl) ?_
  refine lv_iconst (v := nI 2) hx hb dL_law_210 (by decide) ?_
  refine lv_iadd hx hb dL_law_211 ?_
  refine va_sld hx hb hX hbl hbA hW.2.2 (lw_in hj hL (by decide)) dL_law_212 ?_
  refine lwm_i (As := [.int (xs (nI (7 * j) + nI 1).toNatClampNeg), .int (xs (nI (7 * j) + nI 2).toNatClampNeg)]) (rest := [.int r]) S C (c_X8_page l C.2.1 e2) (cwV 2 hts gL_law_X8_page rfl rfl rfl hd_X8_page ⟨(Nat.le_of_ble_eq_true rfl), (Nat.le_of_ble_eq_true rfl)⟩) hW rfl rfl hl.1 (Nat.le_of_ble_eq_true rfl) dL_law_213 (fun H locs hW => ?_)
  refine lv_icmp_eq (tgt := 1037) hx hb dL_law_216 (by decide) (fun _ => ?_) (fun q => absurd rfl q)
  exact kk σ' τ' H locs hC' hW
set_option maxHeartbeats 4000000 in
set_option maxRecDepth 100000 in
theorem lw_c1 {p : Program} {l : Launch} {e : Env} {s : State} {m : MethodId} {below : List Frame} {meth : Method} {c : Code} {Q : State → Prop} {D : va_G} {Y : Nat → ClassId} {A B : ss_A} {b L j : Nat} {xs : Nat → Int32} (S : CallFix p m c cL_law 4 s #[Value.ref b] lw_tbl RL) (C : LC D Y A B s) (hX : va_X b L xs s s.heap) (hbl : b < s.heap.size) (hL : L ≤ 448) (hj : 7 * j + 7 ≤ L) {σ τ : ss_M} (hC : Cpl j σ τ) {H : Heap} {locs : List Loc} (hW : LW D Y A B σ τ s H locs) {ls : Array Slot} (hl : lv_has ls 4 [(0, .ref b), (1, .ref (A 0 6 0)), (2, .ref (B 0 7 0)), (3, .int (nI (7 * j)))])
    (kk : ∀ (σ' τ' : ss_M) (H1 : Heap) (locs1 : List Loc), Cpl (j + 1) σ' τ' → LW D Y A B σ' τ' s H1 locs1 → W p l e room_1 s m #[Value.ref b] below meth c H1 locs1 600000 7302250 Q (F0 m 1037 ls [])) : W p l e room_1 s m #[Value.ref b] below meth c H locs 600000 7302250 Q (F0 m 221 ls []) := by
  obtain ⟨hx, hb, hml, hown, hts⟩ := id S
  have hbA : ¬ (fun q : Nat => s.heap.size ≤ q) b := Nat.not_le.mpr hbl
  obtain ⟨r, σ', τ', e1, e2, hC'⟩ := sim_word hC (xs (nI (7 * j) + nI 1).toNatClampNeg)
  refine lv_aload_n hx hb dL_law_221 rfl (lv_at hl 1 rfl) ?_
  refine lv_aload_n hx hb dL_law_222 rfl (lv_at hl 0 rfl) ?_
  refine lv_iload_n hx hb dL_law_223 rfl (lv_at hl 3 rfl) ?_
  refine lv_iconst (v := nI 1) hx hb dL_law_224 (by decide) ?_
  refine lv_iadd hx hb dL_law_225 ?_
  refine va_sld hx hb hX hbl hbA hW.2.2 (lw_in hj hL (by decide)) dL_law_226 ?_
  refine lwx_i (As := [.int (xs (nI (7 * j) + nI 1).toNatClampNeg)]) (rest := []) S C (c_X7_word l C.1 e1) (cwV 1 hts gL_law_X7_word rfl rfl rfl hd_X7_word ⟨(Nat.le_of_ble_eq_true rfl), (Nat.le_of_ble_eq_true rfl)⟩) hW rfl rfl hl.1 (Nat.le_of_ble_eq_true rfl) dL_law_227 (fun H locs hW => ?_)
  refine lv_aload_n hx hb dL_law_230 rfl (lv_at hl 2 rfl) ?_
  refine lv_aload_n hx hb dL_law_231 rfl (lv_at hl 0 rfl) ?_
  refine lv_iload_n hx hb dL_law_232 rfl (lv_at hl 3 rfl) ?_
  refine lv_iconst (v := nI 1) hx hb dL_law_233 (by decide) ?_
  refine lv_iadd hx hb dL_law_234 ?_
  refine va_sld hx hb hX hbl hbA hW.2.2 (lw_in hj hL (by decide)) dL_law_235 ?_
  refine lwm_i (As := [.int (xs (nI (7 * j) + nI 1).toNatClampNeg)]) (rest := [.int r]) S C (c_X8_word l C.2.1 e2) (cwV 1 hts gL_law_X8_word rfl rfl rfl hd_X8_word ⟨(Nat.le_of_ble_eq_true rfl), (Nat.le_of_ble_eq_true rfl)⟩) hW rfl rfl hl.1 (Nat.le_of_ble_eq_true rfl) dL_law_236 (fun H locs hW => ?_)
  refine lv_icmp_eq (tgt := 1037) hx hb dL_law_239 (by decide) (fun _ => ?_) (fun q => absurd rfl q)
  exact kk σ' τ' H locs hC' hW
set_option maxHeartbeats 4000000 in
set_option maxRecDepth 100000 in
theorem lw_c2 {p : Program} {l : Launch} {e : Env} {s : State} {m : MethodId} {below : List Frame} {meth : Method} {c : Code} {Q : State → Prop} {D : va_G} {Y : Nat → ClassId} {A B : ss_A} {b L j : Nat} {xs : Nat → Int32} (S : CallFix p m c cL_law 4 s #[Value.ref b] lw_tbl RL) (C : LC D Y A B s) (hX : va_X b L xs s s.heap) (hbl : b < s.heap.size) (hL : L ≤ 448) (hj : 7 * j + 7 ≤ L) {σ τ : ss_M} (hC : Cpl j σ τ) {H : Heap} {locs : List Loc} (hW : LW D Y A B σ τ s H locs) {ls : Array Slot} (hl : lv_has ls 4 [(0, .ref b), (1, .ref (A 0 6 0)), (2, .ref (B 0 7 0)), (3, .int (nI (7 * j)))])
    (kk : ∀ (σ' τ' : ss_M) (H1 : Heap) (locs1 : List Loc), Cpl (j + 1) σ' τ' → LW D Y A B σ' τ' s H1 locs1 → W p l e room_1 s m #[Value.ref b] below meth c H1 locs1 600000 7302250 Q (F0 m 1037 ls [])) : W p l e room_1 s m #[Value.ref b] below meth c H locs 600000 7302250 Q (F0 m 244 ls []) := by
  obtain ⟨hx, hb, hml, hown, hts⟩ := id S
  have hbA : ¬ (fun q : Nat => s.heap.size ≤ q) b := Nat.not_le.mpr hbl
  obtain ⟨r, σ', τ', e1, e2, hC'⟩ := sim_breath hC (xs (nI (7 * j) + nI 1).toNatClampNeg)
  refine lv_aload_n hx hb dL_law_244 rfl (lv_at hl 1 rfl) ?_
  refine lv_aload_n hx hb dL_law_245 rfl (lv_at hl 0 rfl) ?_
  refine lv_iload_n hx hb dL_law_246 rfl (lv_at hl 3 rfl) ?_
  refine lv_iconst (v := nI 1) hx hb dL_law_247 (by decide) ?_
  refine lv_iadd hx hb dL_law_248 ?_
  refine va_sld hx hb hX hbl hbA hW.2.2 (lw_in hj hL (by decide)) dL_law_249 ?_
  refine lwx_i (As := [.int (xs (nI (7 * j) + nI 1).toNatClampNeg)]) (rest := []) S C (c_X7_breath l C.1 e1) (cwV 1 hts gL_law_X7_breath rfl rfl rfl hd_X7_breath ⟨(Nat.le_of_ble_eq_true rfl), (Nat.le_of_ble_eq_true rfl)⟩) hW rfl rfl hl.1 (Nat.le_of_ble_eq_true rfl) dL_law_250 (fun H locs hW => ?_)
  refine lv_aload_n hx hb dL_law_253 rfl (lv_at hl 2 rfl) ?_
  refine lv_aload_n hx hb dL_law_254 rfl (lv_at hl 0 rfl) ?_
  refine lv_iload_n hx hb dL_law_255 rfl (lv_at hl 3 rfl) ?_
  refine lv_iconst (v := nI 1) hx hb dL_law_256 (by decide) ?_
  refine lv_iadd hx hb dL_law_257 ?_
  refine va_sld hx hb hX hbl hbA hW.2.2 (lw_in hj hL (by decide)) dL_law_258 ?_
  refine lwm_i (As := [.int (xs (nI (7 * j) + nI 1).toNatClampNeg)]) (rest := [.int r]) S C (c_X8_breath l C.2.1 e2) (cwV 1 hts gL_law_X8_breath rfl rfl rfl hd_X8_breath ⟨(Nat.le_of_ble_eq_true rfl), (Nat.le_of_ble_eq_true rfl)⟩) hW rfl rfl hl.1 (Nat.le_of_ble_eq_true rfl) dL_law_259 (fun H locs hW => ?_)
  refine lv_icmp_eq (tgt := 1037) hx hb dL_law_262 (by decide) (fun _ => ?_) (fun q => absurd rfl q)
  exact kk σ' τ' H locs hC' hW
set_option maxHeartbeats 4000000 in
set_option maxRecDepth 100000 in
theorem lw_c3 {p : Program} {l : Launch} {e : Env} {s : State} {m : MethodId} {below : List Frame} {meth : Method} {c : Code} {Q : State → Prop} {D : va_G} {Y : Nat → ClassId} {A B : ss_A} {b L j : Nat} {xs : Nat → Int32} (S : CallFix p m c cL_law 4 s #[Value.ref b] lw_tbl RL) (C : LC D Y A B s) (hX : va_X b L xs s s.heap) (hbl : b < s.heap.size) (hL : L ≤ 448) (hj : 7 * j + 7 ≤ L) {σ τ : ss_M} (hC : Cpl j σ τ) {H : Heap} {locs : List Loc} (hW : LW D Y A B σ τ s H locs) {ls : Array Slot} (hl : lv_has ls 4 [(0, .ref b), (1, .ref (A 0 6 0)), (2, .ref (B 0 7 0)), (3, .int (nI (7 * j)))])
    (kk : ∀ (σ' τ' : ss_M) (H1 : Heap) (locs1 : List Loc), Cpl (j + 1) σ' τ' → LW D Y A B σ' τ' s H1 locs1 → W p l e room_1 s m #[Value.ref b] below meth c H1 locs1 600000 7302250 Q (F0 m 1037 ls [])) : W p l e room_1 s m #[Value.ref b] below meth c H locs 600000 7302250 Q (F0 m 267 ls []) := by
  obtain ⟨hx, hb, hml, hown, hts⟩ := id S
  have hbA : ¬ (fun q : Nat => s.heap.size ≤ q) b := Nat.not_le.mpr hbl
  obtain ⟨r, σ', τ', e1, e2, hC'⟩ := sim_price hC (xs (nI (7 * j) + nI 1).toNatClampNeg)
  refine lv_aload_n hx hb dL_law_267 rfl (lv_at hl 1 rfl) ?_
  refine lv_aload_n hx hb dL_law_268 rfl (lv_at hl 0 rfl) ?_
  refine lv_iload_n hx hb dL_law_269 rfl (lv_at hl 3 rfl) ?_
  refine lv_iconst (v := nI 1) hx hb dL_law_270 (by decide) ?_
  refine lv_iadd hx hb dL_law_271 ?_
  refine va_sld hx hb hX hbl hbA hW.2.2 (lw_in hj hL (by decide)) dL_law_272 ?_
  refine lwx_i (As := [.int (xs (nI (7 * j) + nI 1).toNatClampNeg)]) (rest := []) S C (c_X7_price l C.1 e1) (cwV 1 hts gL_law_X7_price rfl rfl rfl hd_X7_price ⟨(Nat.le_of_ble_eq_true rfl), (Nat.le_of_ble_eq_true rfl)⟩) hW rfl rfl hl.1 (Nat.le_of_ble_eq_true rfl) dL_law_273 (fun H locs hW => ?_)
  refine lv_aload_n hx hb dL_law_276 rfl (lv_at hl 2 rfl) ?_
  refine lv_aload_n hx hb dL_law_277 rfl (lv_at hl 0 rfl) ?_
  refine lv_iload_n hx hb dL_law_278 rfl (lv_at hl 3 rfl) ?_
  refine lv_iconst (v := nI 1) hx hb dL_law_279 (by decide) ?_
  refine lv_iadd hx hb dL_law_280 ?_
  refine va_sld hx hb hX hbl hbA hW.2.2 (lw_in hj hL (by decide)) dL_law_281 ?_
  refine lwm_i (As := [.int (xs (nI (7 * j) + nI 1).toNatClampNeg)]) (rest := [.int r]) S C (c_X8_price l C.2.1 e2) (cwV 1 hts gL_law_X8_price rfl rfl rfl hd_X8_price ⟨(Nat.le_of_ble_eq_true rfl), (Nat.le_of_ble_eq_true rfl)⟩) hW rfl rfl hl.1 (Nat.le_of_ble_eq_true rfl) dL_law_282 (fun H locs hW => ?_)
  refine lv_icmp_eq (tgt := 1037) hx hb dL_law_285 (by decide) (fun _ => ?_) (fun q => absurd rfl q)
  exact kk σ' τ' H locs hC' hW
set_option maxHeartbeats 4000000 in
set_option maxRecDepth 100000 in
theorem lw_c4 {p : Program} {l : Launch} {e : Env} {s : State} {m : MethodId} {below : List Frame} {meth : Method} {c : Code} {Q : State → Prop} {D : va_G} {Y : Nat → ClassId} {A B : ss_A} {b L j : Nat} {xs : Nat → Int32} (S : CallFix p m c cL_law 4 s #[Value.ref b] lw_tbl RL) (C : LC D Y A B s) (hX : va_X b L xs s s.heap) (hbl : b < s.heap.size) (hL : L ≤ 448) (hj : 7 * j + 7 ≤ L) {σ τ : ss_M} (hC : Cpl j σ τ) {H : Heap} {locs : List Loc} (hW : LW D Y A B σ τ s H locs) {ls : Array Slot} (hl : lv_has ls 4 [(0, .ref b), (1, .ref (A 0 6 0)), (2, .ref (B 0 7 0)), (3, .int (nI (7 * j)))])
    (kk : ∀ (σ' τ' : ss_M) (H1 : Heap) (locs1 : List Loc), Cpl (j + 1) σ' τ' → LW D Y A B σ' τ' s H1 locs1 → W p l e room_1 s m #[Value.ref b] below meth c H1 locs1 600000 7302250 Q (F0 m 1037 ls [])) : W p l e room_1 s m #[Value.ref b] below meth c H locs 600000 7302250 Q (F0 m 290 ls []) := by
  obtain ⟨hx, hb, hml, hown, hts⟩ := id S
  have hbA : ¬ (fun q : Nat => s.heap.size ≤ q) b := Nat.not_le.mpr hbl
  obtain ⟨r, σ', τ', e1, e2, hC'⟩ := sim_purse hC (xs (nI (7 * j) + nI 1).toNatClampNeg)
  refine lv_aload_n hx hb dL_law_290 rfl (lv_at hl 1 rfl) ?_
  refine lv_aload_n hx hb dL_law_291 rfl (lv_at hl 0 rfl) ?_
  refine lv_iload_n hx hb dL_law_292 rfl (lv_at hl 3 rfl) ?_
  refine lv_iconst (v := nI 1) hx hb dL_law_293 (by decide) ?_
  refine lv_iadd hx hb dL_law_294 ?_
  refine va_sld hx hb hX hbl hbA hW.2.2 (lw_in hj hL (by decide)) dL_law_295 ?_
  refine lwx_i (As := [.int (xs (nI (7 * j) + nI 1).toNatClampNeg)]) (rest := []) S C (c_X7_purse l C.1 e1) (cwV 1 hts gL_law_X7_purse rfl rfl rfl hd_X7_purse ⟨(Nat.le_of_ble_eq_true rfl), (Nat.le_of_ble_eq_true rfl)⟩) hW rfl rfl hl.1 (Nat.le_of_ble_eq_true rfl) dL_law_296 (fun H locs hW => ?_)
  refine lv_aload_n hx hb dL_law_299 rfl (lv_at hl 2 rfl) ?_
  refine lv_aload_n hx hb dL_law_300 rfl (lv_at hl 0 rfl) ?_
  refine lv_iload_n hx hb dL_law_301 rfl (lv_at hl 3 rfl) ?_
  refine lv_iconst (v := nI 1) hx hb dL_law_302 (by decide) ?_
  refine lv_iadd hx hb dL_law_303 ?_
  refine va_sld hx hb hX hbl hbA hW.2.2 (lw_in hj hL (by decide)) dL_law_304 ?_
  refine lwm_i (As := [.int (xs (nI (7 * j) + nI 1).toNatClampNeg)]) (rest := [.int r]) S C (c_X8_purse l C.2.1 e2) (cwV 1 hts gL_law_X8_purse rfl rfl rfl hd_X8_purse ⟨(Nat.le_of_ble_eq_true rfl), (Nat.le_of_ble_eq_true rfl)⟩) hW rfl rfl hl.1 (Nat.le_of_ble_eq_true rfl) dL_law_305 (fun H locs hW => ?_)
  refine lv_icmp_eq (tgt := 1037) hx hb dL_law_308 (by decide) (fun _ => ?_) (fun q => absurd rfl q)
  exact kk σ' τ' H locs hC' hW
set_option maxHeartbeats 4000000 in
set_option maxRecDepth 100000 in
theorem lw_c5 {p : Program} {l : Launch} {e : Env} {s : State} {m : MethodId} {below : List Frame} {meth : Method} {c : Code} {Q : State → Prop} {D : va_G} {Y : Nat → ClassId} {A B : ss_A} {b L j : Nat} {xs : Nat → Int32} (S : CallFix p m c cL_law 4 s #[Value.ref b] lw_tbl RL) (C : LC D Y A B s) (hX : va_X b L xs s s.heap) (hbl : b < s.heap.size) (hL : L ≤ 448) (hj : 7 * j + 7 ≤ L) {σ τ : ss_M} (hC : Cpl j σ τ) {H : Heap} {locs : List Loc} (hW : LW D Y A B σ τ s H locs) {ls : Array Slot} (hl : lv_has ls 4 [(0, .ref b), (1, .ref (A 0 6 0)), (2, .ref (B 0 7 0)), (3, .int (nI (7 * j)))])
    (kk : ∀ (σ' τ' : ss_M) (H1 : Heap) (locs1 : List Loc), Cpl (j + 1) σ' τ' → LW D Y A B σ' τ' s H1 locs1 → W p l e room_1 s m #[Value.ref b] below meth c H1 locs1 600000 7302250 Q (F0 m 1037 ls [])) : W p l e room_1 s m #[Value.ref b] below meth c H locs 600000 7302250 Q (F0 m 313 ls []) := by
  obtain ⟨hx, hb, hml, hown, hts⟩ := id S
  have hbA : ¬ (fun q : Nat => s.heap.size ≤ q) b := Nat.not_le.mpr hbl
  obtain ⟨r, σ', τ', e1, e2, hC'⟩ := sim_put hC (xs (nI (7 * j) + nI 1).toNatClampNeg) (xs (nI (7 * j) + nI 2).toNatClampNeg)
  refine lv_aload_n hx hb dL_law_313 rfl (lv_at hl 1 rfl) ?_
  refine lv_aload_n hx hb dL_law_314 rfl (lv_at hl 0 rfl) ?_
  refine lv_iload_n hx hb dL_law_315 rfl (lv_at hl 3 rfl) ?_
  refine lv_iconst (v := nI 1) hx hb dL_law_316 (by decide) ?_
  refine lv_iadd hx hb dL_law_317 ?_
  refine va_sld hx hb hX hbl hbA hW.2.2 (lw_in hj hL (by decide)) dL_law_318 ?_
  refine lv_aload_n hx hb dL_law_319 rfl (lv_at hl 0 rfl) ?_
  refine lv_iload_n hx hb dL_law_320 rfl (lv_at hl 3 rfl) ?_
  refine lv_iconst (v := nI 2) hx hb dL_law_321 (by decide) ?_
  refine lv_iadd hx hb dL_law_322 ?_
  refine va_sld hx hb hX hbl hbA hW.2.2 (lw_in hj hL (by decide)) dL_law_323 ?_
  refine lwx_i (As := [.int (xs (nI (7 * j) + nI 1).toNatClampNeg), .int (xs (nI (7 * j) + nI 2).toNatClampNeg)]) (rest := []) S C (c_X7_put l C.1 e1) (cwV 2 hts gL_law_X7_put rfl rfl rfl hd_X7_put ⟨(Nat.le_of_ble_eq_true rfl), (Nat.le_of_ble_eq_true rfl)⟩) hW rfl rfl hl.1 (Nat.le_of_ble_eq_true rfl) dL_law_324 (fun H locs hW => ?_)
  refine lv_aload_n hx hb dL_law_327 rfl (lv_at hl 2 rfl) ?_
  refine lv_aload_n hx hb dL_law_328 rfl (lv_at hl 0 rfl) ?_
  refine lv_iload_n hx hb dL_law_329 rfl (lv_at hl 3 rfl) ?_
  refine lv_iconst (v := nI 1) hx hb dL_law_330 (by decide) ?_
  refine lv_iadd hx hb dL_law_331 ?_
  refine va_sld hx hb hX hbl hbA hW.2.2 (lw_in hj hL (by decide)) dL_law_332 ?_
  refine lv_aload_n hx hb dL_law_333 rfl (lv_at hl 0 rfl) ?_
  refine lv_iload_n hx hb dL_law_334 rfl (lv_at hl 3 rfl) ?_
  refine lv_iconst (v := nI 2) hx hb dL_law_335 (by decide) ?_
  refine lv_iadd hx hb dL_law_336 ?_
  refine va_sld hx hb hX hbl hbA hW.2.2 (lw_in hj hL (by decide)) dL_law_337 ?_
  refine lwm_i (As := [.int (xs (nI (7 * j) + nI 1).toNatClampNeg), .int (xs (nI (7 * j) + nI 2).toNatClampNeg)]) (rest := [.int r]) S C (c_X8_put l C.2.1 e2) (cwV 2 hts gL_law_X8_put rfl rfl rfl hd_X8_put ⟨(Nat.le_of_ble_eq_true rfl), (Nat.le_of_ble_eq_true rfl)⟩) hW rfl rfl hl.1 (Nat.le_of_ble_eq_true rfl) dL_law_338 (fun H locs hW => ?_)
  refine lv_icmp_eq (tgt := 1037) hx hb dL_law_341 (by decide) (fun _ => ?_) (fun q => absurd rfl q)
  exact kk σ' τ' H locs hC' hW
set_option maxHeartbeats 4000000 in
set_option maxRecDepth 100000 in
theorem lw_c6 {p : Program} {l : Launch} {e : Env} {s : State} {m : MethodId} {below : List Frame} {meth : Method} {c : Code} {Q : State → Prop} {D : va_G} {Y : Nat → ClassId} {A B : ss_A} {b L j : Nat} {xs : Nat → Int32} (S : CallFix p m c cL_law 4 s #[Value.ref b] lw_tbl RL) (C : LC D Y A B s) (hX : va_X b L xs s s.heap) (hbl : b < s.heap.size) (hL : L ≤ 448) (hj : 7 * j + 7 ≤ L) {σ τ : ss_M} (hC : Cpl j σ τ) {H : Heap} {locs : List Loc} (hW : LW D Y A B σ τ s H locs) {ls : Array Slot} (hl : lv_has ls 4 [(0, .ref b), (1, .ref (A 0 6 0)), (2, .ref (B 0 7 0)), (3, .int (nI (7 * j)))])
    (kk : ∀ (σ' τ' : ss_M) (H1 : Heap) (locs1 : List Loc), Cpl (j + 1) σ' τ' → LW D Y A B σ' τ' s H1 locs1 → W p l e room_1 s m #[Value.ref b] below meth c H1 locs1 600000 7302250 Q (F0 m 1037 ls [])) : W p l e room_1 s m #[Value.ref b] below meth c H locs 600000 7302250 Q (F0 m 346 ls []) := by
  obtain ⟨hx, hb, hml, hown, hts⟩ := id S
  have hbA : ¬ (fun q : Nat => s.heap.size ≤ q) b := Nat.not_le.mpr hbl
  obtain ⟨r, σ', τ', e1, e2, hC'⟩ := sim_type hC (xs (nI (7 * j) + nI 1).toNatClampNeg)
  refine lv_aload_n hx hb dL_law_346 rfl (lv_at hl 1 rfl) ?_
  refine lv_aload_n hx hb dL_law_347 rfl (lv_at hl 0 rfl) ?_
  refine lv_iload_n hx hb dL_law_348 rfl (lv_at hl 3 rfl) ?_
  refine lv_iconst (v := nI 1) hx hb dL_law_349 (by decide) ?_
  refine lv_iadd hx hb dL_law_350 ?_
  refine va_sld hx hb hX hbl hbA hW.2.2 (lw_in hj hL (by decide)) dL_law_351 ?_
  refine lwx_i (As := [.int (xs (nI (7 * j) + nI 1).toNatClampNeg)]) (rest := []) S C (c_X7_type l C.1 e1) (cwV 1 hts gL_law_X7_type rfl rfl rfl hd_X7_type ⟨(Nat.le_of_ble_eq_true rfl), (Nat.le_of_ble_eq_true rfl)⟩) hW rfl rfl hl.1 (Nat.le_of_ble_eq_true rfl) dL_law_352 (fun H locs hW => ?_)
  refine lv_aload_n hx hb dL_law_355 rfl (lv_at hl 2 rfl) ?_
  refine lv_aload_n hx hb dL_law_356 rfl (lv_at hl 0 rfl) ?_
  refine lv_iload_n hx hb dL_law_357 rfl (lv_at hl 3 rfl) ?_
  refine lv_iconst (v := nI 1) hx hb dL_law_358 (by decide) ?_
  refine lv_iadd hx hb dL_law_359 ?_
  refine va_sld hx hb hX hbl hbA hW.2.2 (lw_in hj hL (by decide)) dL_law_360 ?_
  refine lwm_i (As := [.int (xs (nI (7 * j) + nI 1).toNatClampNeg)]) (rest := [.int r]) S C (c_X8_type l C.2.1 e2) (cwV 1 hts gL_law_X8_type rfl rfl rfl hd_X8_type ⟨(Nat.le_of_ble_eq_true rfl), (Nat.le_of_ble_eq_true rfl)⟩) hW rfl rfl hl.1 (Nat.le_of_ble_eq_true rfl) dL_law_361 (fun H locs hW => ?_)
  refine lv_icmp_eq (tgt := 1037) hx hb dL_law_364 (by decide) (fun _ => ?_) (fun q => absurd rfl q)
  exact kk σ' τ' H locs hC' hW
set_option maxHeartbeats 4000000 in
set_option maxRecDepth 100000 in
theorem lw_c7 {p : Program} {l : Launch} {e : Env} {s : State} {m : MethodId} {below : List Frame} {meth : Method} {c : Code} {Q : State → Prop} {D : va_G} {Y : Nat → ClassId} {A B : ss_A} {b L j : Nat} {xs : Nat → Int32} (S : CallFix p m c cL_law 4 s #[Value.ref b] lw_tbl RL) (C : LC D Y A B s) (hX : va_X b L xs s s.heap) (hbl : b < s.heap.size) (hL : L ≤ 448) (hj : 7 * j + 7 ≤ L) {σ τ : ss_M} (hC : Cpl j σ τ) {H : Heap} {locs : List Loc} (hW : LW D Y A B σ τ s H locs) {ls : Array Slot} (hl : lv_has ls 4 [(0, .ref b), (1, .ref (A 0 6 0)), (2, .ref (B 0 7 0)), (3, .int (nI (7 * j)))])
    (kk : ∀ (σ' τ' : ss_M) (H1 : Heap) (locs1 : List Loc), Cpl (j + 1) σ' τ' → LW D Y A B σ' τ' s H1 locs1 → W p l e room_1 s m #[Value.ref b] below meth c H1 locs1 600000 7302250 Q (F0 m 1037 ls [])) : W p l e room_1 s m #[Value.ref b] below meth c H locs 600000 7302250 Q (F0 m 369 ls []) := by
  obtain ⟨hx, hb, hml, hown, hts⟩ := id S
  have hbA : ¬ (fun q : Nat => s.heap.size ≤ q) b := Nat.not_le.mpr hbl
  obtain ⟨r, σ', τ', e1, e2, hC'⟩ := sim_clear hC 
  refine lv_aload_n hx hb dL_law_369 rfl (lv_at hl 1 rfl) ?_
  refine lwx_i (As := []) (rest := []) S C (c_X7_clear l C.1 e1) (cwV 0 hts gL_law_X7_clear rfl rfl rfl hd_X7_clear ⟨(Nat.le_of_ble_eq_true rfl), (Nat.le_of_ble_eq_true rfl)⟩) hW rfl rfl hl.1 (Nat.le_of_ble_eq_true rfl) dL_law_370 (fun H locs hW => ?_)
  refine lv_aload_n hx hb dL_law_373 rfl (lv_at hl 2 rfl) ?_
  refine lwm_i (As := []) (rest := [.int r]) S C (c_X8_clear l C.2.1 e2) (cwV 0 hts gL_law_X8_clear rfl rfl rfl hd_X8_clear ⟨(Nat.le_of_ble_eq_true rfl), (Nat.le_of_ble_eq_true rfl)⟩) hW rfl rfl hl.1 (Nat.le_of_ble_eq_true rfl) dL_law_374 (fun H locs hW => ?_)
  refine lv_icmp_eq (tgt := 1037) hx hb dL_law_377 (by decide) (fun _ => ?_) (fun q => absurd rfl q)
  exact kk σ' τ' H locs hC' hW
set_option maxHeartbeats 4000000 in
set_option maxRecDepth 100000 in
theorem lw_c8 {p : Program} {l : Launch} {e : Env} {s : State} {m : MethodId} {below : List Frame} {meth : Method} {c : Code} {Q : State → Prop} {D : va_G} {Y : Nat → ClassId} {A B : ss_A} {b L j : Nat} {xs : Nat → Int32} (S : CallFix p m c cL_law 4 s #[Value.ref b] lw_tbl RL) (C : LC D Y A B s) (hX : va_X b L xs s s.heap) (hbl : b < s.heap.size) (hL : L ≤ 448) (hj : 7 * j + 7 ≤ L) {σ τ : ss_M} (hC : Cpl j σ τ) {H : Heap} {locs : List Loc} (hW : LW D Y A B σ τ s H locs) {ls : Array Slot} (hl : lv_has ls 4 [(0, .ref b), (1, .ref (A 0 6 0)), (2, .ref (B 0 7 0)), (3, .int (nI (7 * j)))])
    (kk : ∀ (σ' τ' : ss_M) (H1 : Heap) (locs1 : List Loc), Cpl (j + 1) σ' τ' → LW D Y A B σ' τ' s H1 locs1 → W p l e room_1 s m #[Value.ref b] below meth c H1 locs1 600000 7302250 Q (F0 m 1037 ls [])) : W p l e room_1 s m #[Value.ref b] below meth c H locs 600000 7302250 Q (F0 m 382 ls []) := by
  obtain ⟨hx, hb, hml, hown, hts⟩ := id S
  have hbA : ¬ (fun q : Nat => s.heap.size ≤ q) b := Nat.not_le.mpr hbl
  obtain ⟨r, σ', τ', e1, e2, hC'⟩ := sim_read hC 
  refine lv_aload_n hx hb dL_law_382 rfl (lv_at hl 1 rfl) ?_
  refine lwx_i (As := []) (rest := []) S C (c_X7_read l C.1 e1) (cwV 0 hts gL_law_X7_read rfl rfl rfl hd_X7_read ⟨(Nat.le_of_ble_eq_true rfl), (Nat.le_of_ble_eq_true rfl)⟩) hW rfl rfl hl.1 (Nat.le_of_ble_eq_true rfl) dL_law_383 (fun H locs hW => ?_)
  refine lv_aload_n hx hb dL_law_386 rfl (lv_at hl 2 rfl) ?_
  refine lwm_i (As := []) (rest := [.int r]) S C (c_X8_read l C.2.1 e2) (cwV 0 hts gL_law_X8_read rfl rfl rfl hd_X8_read ⟨(Nat.le_of_ble_eq_true rfl), (Nat.le_of_ble_eq_true rfl)⟩) hW rfl rfl hl.1 (Nat.le_of_ble_eq_true rfl) dL_law_387 (fun H locs hW => ?_)
  refine lv_icmp_eq (tgt := 1037) hx hb dL_law_390 (by decide) (fun _ => ?_) (fun q => absurd rfl q)
  exact kk σ' τ' H locs hC' hW
set_option maxHeartbeats 4000000 in
set_option maxRecDepth 100000 in
theorem lw_c9 {p : Program} {l : Launch} {e : Env} {s : State} {m : MethodId} {below : List Frame} {meth : Method} {c : Code} {Q : State → Prop} {D : va_G} {Y : Nat → ClassId} {A B : ss_A} {b L j : Nat} {xs : Nat → Int32} (S : CallFix p m c cL_law 4 s #[Value.ref b] lw_tbl RL) (C : LC D Y A B s) (hX : va_X b L xs s s.heap) (hbl : b < s.heap.size) (hL : L ≤ 448) (hj : 7 * j + 7 ≤ L) {σ τ : ss_M} (hC : Cpl j σ τ) {H : Heap} {locs : List Loc} (hW : LW D Y A B σ τ s H locs) {ls : Array Slot} (hl : lv_has ls 4 [(0, .ref b), (1, .ref (A 0 6 0)), (2, .ref (B 0 7 0)), (3, .int (nI (7 * j)))])
    (kk : ∀ (σ' τ' : ss_M) (H1 : Heap) (locs1 : List Loc), Cpl (j + 1) σ' τ' → LW D Y A B σ' τ' s H1 locs1 → W p l e room_1 s m #[Value.ref b] below meth c H1 locs1 600000 7302250 Q (F0 m 1037 ls [])) : W p l e room_1 s m #[Value.ref b] below meth c H locs 600000 7302250 Q (F0 m 395 ls []) := by
  obtain ⟨hx, hb, hml, hown, hts⟩ := id S
  have hbA : ¬ (fun q : Nat => s.heap.size ≤ q) b := Nat.not_le.mpr hbl
  obtain ⟨r, σ', τ', e1, e2, hC'⟩ := sim_buy (by omega) hC (xs (nI (7 * j) + nI 1).toNatClampNeg) (xs (nI (7 * j) + nI 2).toNatClampNeg)
  refine lv_aload_n hx hb dL_law_395 rfl (lv_at hl 1 rfl) ?_
  refine lv_aload_n hx hb dL_law_396 rfl (lv_at hl 0 rfl) ?_
  refine lv_iload_n hx hb dL_law_397 rfl (lv_at hl 3 rfl) ?_
  refine lv_iconst (v := nI 1) hx hb dL_law_398 (by decide) ?_
  refine lv_iadd hx hb dL_law_399 ?_
  refine va_sld hx hb hX hbl hbA hW.2.2 (lw_in hj hL (by decide)) dL_law_400 ?_
  refine lv_aload_n hx hb dL_law_401 rfl (lv_at hl 0 rfl) ?_
  refine lv_iload_n hx hb dL_law_402 rfl (lv_at hl 3 rfl) ?_
  refine lv_iconst (v := nI 2) hx hb dL_law_403 (by decide) ?_
  refine lv_iadd hx hb dL_law_404 ?_
  refine va_sld hx hb hX hbl hbA hW.2.2 (lw_in hj hL (by decide)) dL_law_405 ?_
  refine lwx_i (As := [.int (xs (nI (7 * j) + nI 1).toNatClampNeg), .int (xs (nI (7 * j) + nI 2).toNatClampNeg)]) (rest := []) S C (c_X7_buy l C.1 e1) (cwV 2 hts gL_law_X7_buy rfl rfl rfl hd_X7_buy ⟨(Nat.le_of_ble_eq_true rfl), (Nat.le_of_ble_eq_true rfl)⟩) hW rfl rfl hl.1 (Nat.le_of_ble_eq_true rfl) dL_law_406 (fun H locs hW => ?_)
  refine lv_aload_n hx hb dL_law_409 rfl (lv_at hl 2 rfl) ?_
  refine lv_aload_n hx hb dL_law_410 rfl (lv_at hl 0 rfl) ?_
  refine lv_iload_n hx hb dL_law_411 rfl (lv_at hl 3 rfl) ?_
  refine lv_iconst (v := nI 1) hx hb dL_law_412 (by decide) ?_
  refine lv_iadd hx hb dL_law_413 ?_
  refine va_sld hx hb hX hbl hbA hW.2.2 (lw_in hj hL (by decide)) dL_law_414 ?_
  refine lv_aload_n hx hb dL_law_415 rfl (lv_at hl 0 rfl) ?_
  refine lv_iload_n hx hb dL_law_416 rfl (lv_at hl 3 rfl) ?_
  refine lv_iconst (v := nI 2) hx hb dL_law_417 (by decide) ?_
  refine lv_iadd hx hb dL_law_418 ?_
  refine va_sld hx hb hX hbl hbA hW.2.2 (lw_in hj hL (by decide)) dL_law_419 ?_
  refine lwm_i (As := [.int (xs (nI (7 * j) + nI 1).toNatClampNeg), .int (xs (nI (7 * j) + nI 2).toNatClampNeg)]) (rest := [.int r]) S C (c_X8_buy l C.2.1 e2) (cwV 2 hts gL_law_X8_buy rfl rfl rfl hd_X8_buy ⟨(Nat.le_of_ble_eq_true rfl), (Nat.le_of_ble_eq_true rfl)⟩) hW rfl rfl hl.1 (Nat.le_of_ble_eq_true rfl) dL_law_420 (fun H locs hW => ?_)
  refine lv_icmp_eq (tgt := 1037) hx hb dL_law_423 (by decide) (fun _ => ?_) (fun q => absurd rfl q)
  exact kk σ' τ' H locs hC' hW
set_option maxHeartbeats 4000000 in
set_option maxRecDepth 100000 in
theorem lw_c10 {p : Program} {l : Launch} {e : Env} {s : State} {m : MethodId} {below : List Frame} {meth : Method} {c : Code} {Q : State → Prop} {D : va_G} {Y : Nat → ClassId} {A B : ss_A} {b L j : Nat} {xs : Nat → Int32} (S : CallFix p m c cL_law 4 s #[Value.ref b] lw_tbl RL) (C : LC D Y A B s) (hX : va_X b L xs s s.heap) (hbl : b < s.heap.size) (hL : L ≤ 448) (hj : 7 * j + 7 ≤ L) {σ τ : ss_M} (hC : Cpl j σ τ) {H : Heap} {locs : List Loc} (hW : LW D Y A B σ τ s H locs) {ls : Array Slot} (hl : lv_has ls 4 [(0, .ref b), (1, .ref (A 0 6 0)), (2, .ref (B 0 7 0)), (3, .int (nI (7 * j)))])
    (kk : ∀ (σ' τ' : ss_M) (H1 : Heap) (locs1 : List Loc), Cpl (j + 1) σ' τ' → LW D Y A B σ' τ' s H1 locs1 → W p l e room_1 s m #[Value.ref b] below meth c H1 locs1 600000 7302250 Q (F0 m 1037 ls [])) : W p l e room_1 s m #[Value.ref b] below meth c H locs 600000 7302250 Q (F0 m 428 ls []) := by
  obtain ⟨hx, hb, hml, hown, hts⟩ := id S
  have hbA : ¬ (fun q : Nat => s.heap.size ≤ q) b := Nat.not_le.mpr hbl
  obtain ⟨r, σ', τ', e1, e2, hC'⟩ := sim_sell (by omega) hC (xs (nI (7 * j) + nI 1).toNatClampNeg)
  refine lv_aload_n hx hb dL_law_428 rfl (lv_at hl 1 rfl) ?_
  refine lv_aload_n hx hb dL_law_429 rfl (lv_at hl 0 rfl) ?_
  refine lv_iload_n hx hb dL_law_430 rfl (lv_at hl 3 rfl) ?_
  refine lv_iconst (v := nI 1) hx hb dL_law_431 (by decide) ?_
  refine lv_iadd hx hb dL_law_432 ?_
  refine va_sld hx hb hX hbl hbA hW.2.2 (lw_in hj hL (by decide)) dL_law_433 ?_
  refine lwx_i (As := [.int (xs (nI (7 * j) + nI 1).toNatClampNeg)]) (rest := []) S C (c_X7_sell l C.1 e1) (cwV 1 hts gL_law_X7_sell rfl rfl rfl hd_X7_sell ⟨(Nat.le_of_ble_eq_true rfl), (Nat.le_of_ble_eq_true rfl)⟩) hW rfl rfl hl.1 (Nat.le_of_ble_eq_true rfl) dL_law_434 (fun H locs hW => ?_)
  refine lv_aload_n hx hb dL_law_437 rfl (lv_at hl 2 rfl) ?_
  refine lv_aload_n hx hb dL_law_438 rfl (lv_at hl 0 rfl) ?_
  refine lv_iload_n hx hb dL_law_439 rfl (lv_at hl 3 rfl) ?_
  refine lv_iconst (v := nI 1) hx hb dL_law_440 (by decide) ?_
  refine lv_iadd hx hb dL_law_441 ?_
  refine va_sld hx hb hX hbl hbA hW.2.2 (lw_in hj hL (by decide)) dL_law_442 ?_
  refine lwm_i (As := [.int (xs (nI (7 * j) + nI 1).toNatClampNeg)]) (rest := [.int r]) S C (c_X8_sell l C.2.1 e2) (cwV 1 hts gL_law_X8_sell rfl rfl rfl hd_X8_sell ⟨(Nat.le_of_ble_eq_true rfl), (Nat.le_of_ble_eq_true rfl)⟩) hW rfl rfl hl.1 (Nat.le_of_ble_eq_true rfl) dL_law_443 (fun H locs hW => ?_)
  refine lv_icmp_eq (tgt := 1037) hx hb dL_law_446 (by decide) (fun _ => ?_) (fun q => absurd rfl q)
  exact kk σ' τ' H locs hC' hW
set_option maxHeartbeats 4000000 in
set_option maxRecDepth 100000 in
theorem lw_c11 {p : Program} {l : Launch} {e : Env} {s : State} {m : MethodId} {below : List Frame} {meth : Method} {c : Code} {Q : State → Prop} {D : va_G} {Y : Nat → ClassId} {A B : ss_A} {b L j : Nat} {xs : Nat → Int32} (S : CallFix p m c cL_law 4 s #[Value.ref b] lw_tbl RL) (C : LC D Y A B s) (hX : va_X b L xs s s.heap) (hbl : b < s.heap.size) (hL : L ≤ 448) (hj : 7 * j + 7 ≤ L) {σ τ : ss_M} (hC : Cpl j σ τ) {H : Heap} {locs : List Loc} (hW : LW D Y A B σ τ s H locs) {ls : Array Slot} (hl : lv_has ls 4 [(0, .ref b), (1, .ref (A 0 6 0)), (2, .ref (B 0 7 0)), (3, .int (nI (7 * j)))])
    (kk : ∀ (σ' τ' : ss_M) (H1 : Heap) (locs1 : List Loc), Cpl (j + 1) σ' τ' → LW D Y A B σ' τ' s H1 locs1 → W p l e room_1 s m #[Value.ref b] below meth c H1 locs1 600000 7302250 Q (F0 m 1037 ls [])) : W p l e room_1 s m #[Value.ref b] below meth c H locs 600000 7302250 Q (F0 m 451 ls []) := by
  obtain ⟨hx, hb, hml, hown, hts⟩ := id S
  have hbA : ¬ (fun q : Nat => s.heap.size ≤ q) b := Nat.not_le.mpr hbl
  obtain ⟨r, σ', τ', e1, e2, hC'⟩ := sim_readOut hC 
  refine lv_aload_n hx hb dL_law_451 rfl (lv_at hl 1 rfl) ?_
  refine lwx_i (As := []) (rest := []) S C (c_X7_readOut l C.1 e1) (cwV 0 hts gL_law_X7_readOut rfl rfl rfl hd_X7_readOut ⟨(Nat.le_of_ble_eq_true rfl), (Nat.le_of_ble_eq_true rfl)⟩) hW rfl rfl hl.1 (Nat.le_of_ble_eq_true rfl) dL_law_452 (fun H locs hW => ?_)
  refine lv_aload_n hx hb dL_law_455 rfl (lv_at hl 2 rfl) ?_
  refine lwm_i (As := []) (rest := [.int r]) S C (c_X8_readOut l C.2.1 e2) (cwV 0 hts gL_law_X8_readOut rfl rfl rfl hd_X8_readOut ⟨(Nat.le_of_ble_eq_true rfl), (Nat.le_of_ble_eq_true rfl)⟩) hW rfl rfl hl.1 (Nat.le_of_ble_eq_true rfl) dL_law_456 (fun H locs hW => ?_)
  refine lv_icmp_eq (tgt := 1037) hx hb dL_law_459 (by decide) (fun _ => ?_) (fun q => absurd rfl q)
  exact kk σ' τ' H locs hC' hW
set_option maxHeartbeats 4000000 in
set_option maxRecDepth 100000 in
theorem lw_c12 {p : Program} {l : Launch} {e : Env} {s : State} {m : MethodId} {below : List Frame} {meth : Method} {c : Code} {Q : State → Prop} {D : va_G} {Y : Nat → ClassId} {A B : ss_A} {b L j : Nat} {xs : Nat → Int32} (S : CallFix p m c cL_law 4 s #[Value.ref b] lw_tbl RL) (C : LC D Y A B s) (hX : va_X b L xs s s.heap) (hbl : b < s.heap.size) (hL : L ≤ 448) (hj : 7 * j + 7 ≤ L) {σ τ : ss_M} (hC : Cpl j σ τ) {H : Heap} {locs : List Loc} (hW : LW D Y A B σ τ s H locs) {ls : Array Slot} (hl : lv_has ls 4 [(0, .ref b), (1, .ref (A 0 6 0)), (2, .ref (B 0 7 0)), (3, .int (nI (7 * j)))])
    (kk : ∀ (σ' τ' : ss_M) (H1 : Heap) (locs1 : List Loc), Cpl (j + 1) σ' τ' → LW D Y A B σ' τ' s H1 locs1 → W p l e room_1 s m #[Value.ref b] below meth c H1 locs1 600000 7302250 Q (F0 m 1037 ls [])) : W p l e room_1 s m #[Value.ref b] below meth c H locs 600000 7302250 Q (F0 m 464 ls []) := by
  obtain ⟨hx, hb, hml, hown, hts⟩ := id S
  have hbA : ¬ (fun q : Nat => s.heap.size ≤ q) b := Nat.not_le.mpr hbl
  obtain ⟨r, σ', τ', e1, e2, hC'⟩ := sim_week (by omega) hC (xs (nI (7 * j) + nI 1).toNatClampNeg)
  refine lv_aload_n hx hb dL_law_464 rfl (lv_at hl 1 rfl) ?_
  refine lv_aload_n hx hb dL_law_465 rfl (lv_at hl 0 rfl) ?_
  refine lv_iload_n hx hb dL_law_466 rfl (lv_at hl 3 rfl) ?_
  refine lv_iconst (v := nI 1) hx hb dL_law_467 (by decide) ?_
  refine lv_iadd hx hb dL_law_468 ?_
  refine va_sld hx hb hX hbl hbA hW.2.2 (lw_in hj hL (by decide)) dL_law_469 ?_
  refine lwx_i (As := [.int (xs (nI (7 * j) + nI 1).toNatClampNeg)]) (rest := []) S C (c_X7_week l C.1 e1) (cwV 1 hts gL_law_X7_week rfl rfl rfl hd_X7_week ⟨(Nat.le_of_ble_eq_true rfl), (Nat.le_of_ble_eq_true rfl)⟩) hW rfl rfl hl.1 (Nat.le_of_ble_eq_true rfl) dL_law_470 (fun H locs hW => ?_)
  refine lv_aload_n hx hb dL_law_473 rfl (lv_at hl 2 rfl) ?_
  refine lv_aload_n hx hb dL_law_474 rfl (lv_at hl 0 rfl) ?_
  refine lv_iload_n hx hb dL_law_475 rfl (lv_at hl 3 rfl) ?_
  refine lv_iconst (v := nI 1) hx hb dL_law_476 (by decide) ?_
  refine lv_iadd hx hb dL_law_477 ?_
  refine va_sld hx hb hX hbl hbA hW.2.2 (lw_in hj hL (by decide)) dL_law_478 ?_
  refine lwm_i (As := [.int (xs (nI (7 * j) + nI 1).toNatClampNeg)]) (rest := [.int r]) S C (c_X8_week l C.2.1 e2) (cwV 1 hts gL_law_X8_week rfl rfl rfl hd_X8_week ⟨(Nat.le_of_ble_eq_true rfl), (Nat.le_of_ble_eq_true rfl)⟩) hW rfl rfl hl.1 (Nat.le_of_ble_eq_true rfl) dL_law_479 (fun H locs hW => ?_)
  refine lv_icmp_eq (tgt := 1037) hx hb dL_law_482 (by decide) (fun _ => ?_) (fun q => absurd rfl q)
  exact kk σ' τ' H locs hC' hW
set_option maxHeartbeats 4000000 in
set_option maxRecDepth 100000 in
theorem lw_c13 {p : Program} {l : Launch} {e : Env} {s : State} {m : MethodId} {below : List Frame} {meth : Method} {c : Code} {Q : State → Prop} {D : va_G} {Y : Nat → ClassId} {A B : ss_A} {b L j : Nat} {xs : Nat → Int32} (S : CallFix p m c cL_law 4 s #[Value.ref b] lw_tbl RL) (C : LC D Y A B s) (hX : va_X b L xs s s.heap) (hbl : b < s.heap.size) (hL : L ≤ 448) (hj : 7 * j + 7 ≤ L) {σ τ : ss_M} (hC : Cpl j σ τ) {H : Heap} {locs : List Loc} (hW : LW D Y A B σ τ s H locs) {ls : Array Slot} (hl : lv_has ls 4 [(0, .ref b), (1, .ref (A 0 6 0)), (2, .ref (B 0 7 0)), (3, .int (nI (7 * j)))])
    (kk : ∀ (σ' τ' : ss_M) (H1 : Heap) (locs1 : List Loc), Cpl (j + 1) σ' τ' → LW D Y A B σ' τ' s H1 locs1 → W p l e room_1 s m #[Value.ref b] below meth c H1 locs1 600000 7302250 Q (F0 m 1037 ls [])) : W p l e room_1 s m #[Value.ref b] below meth c H locs 600000 7302250 Q (F0 m 487 ls []) := by
  obtain ⟨hx, hb, hml, hown, hts⟩ := id S
  have hbA : ¬ (fun q : Nat => s.heap.size ≤ q) b := Nat.not_le.mpr hbl
  obtain ⟨r, σ', τ', e1, e2, hC'⟩ := sim_undo hC 
  refine lv_aload_n hx hb dL_law_487 rfl (lv_at hl 1 rfl) ?_
  refine lwx_i (As := []) (rest := []) S C (c_X7_undo l C.1 e1) (cwV 0 hts gL_law_X7_undo rfl rfl rfl hd_X7_undo ⟨(Nat.le_of_ble_eq_true rfl), (Nat.le_of_ble_eq_true rfl)⟩) hW rfl rfl hl.1 (Nat.le_of_ble_eq_true rfl) dL_law_488 (fun H locs hW => ?_)
  refine lv_aload_n hx hb dL_law_491 rfl (lv_at hl 2 rfl) ?_
  refine lwm_i (As := []) (rest := [.int r]) S C (c_X8_undo l C.2.1 e2) (cwV 0 hts gL_law_X8_undo rfl rfl rfl hd_X8_undo ⟨(Nat.le_of_ble_eq_true rfl), (Nat.le_of_ble_eq_true rfl)⟩) hW rfl rfl hl.1 (Nat.le_of_ble_eq_true rfl) dL_law_492 (fun H locs hW => ?_)
  refine lv_icmp_eq (tgt := 1037) hx hb dL_law_495 (by decide) (fun _ => ?_) (fun q => absurd rfl q)
  exact kk σ' τ' H locs hC' hW
set_option maxHeartbeats 4000000 in
set_option maxRecDepth 100000 in
theorem lw_c14 {p : Program} {l : Launch} {e : Env} {s : State} {m : MethodId} {below : List Frame} {meth : Method} {c : Code} {Q : State → Prop} {D : va_G} {Y : Nat → ClassId} {A B : ss_A} {b L j : Nat} {xs : Nat → Int32} (S : CallFix p m c cL_law 4 s #[Value.ref b] lw_tbl RL) (C : LC D Y A B s) (hX : va_X b L xs s s.heap) (hbl : b < s.heap.size) (hL : L ≤ 448) (hj : 7 * j + 7 ≤ L) {σ τ : ss_M} (hC : Cpl j σ τ) {H : Heap} {locs : List Loc} (hW : LW D Y A B σ τ s H locs) {ls : Array Slot} (hl : lv_has ls 4 [(0, .ref b), (1, .ref (A 0 6 0)), (2, .ref (B 0 7 0)), (3, .int (nI (7 * j)))])
    (kk : ∀ (σ' τ' : ss_M) (H1 : Heap) (locs1 : List Loc), Cpl (j + 1) σ' τ' → LW D Y A B σ' τ' s H1 locs1 → W p l e room_1 s m #[Value.ref b] below meth c H1 locs1 600000 7302250 Q (F0 m 1037 ls [])) : W p l e room_1 s m #[Value.ref b] below meth c H locs 600000 7302250 Q (F0 m 500 ls []) := by
  obtain ⟨hx, hb, hml, hown, hts⟩ := id S
  have hbA : ¬ (fun q : Nat => s.heap.size ≤ q) b := Nat.not_le.mpr hbl
  obtain ⟨r, σ', τ', e1, e2, hC'⟩ := sim_of (by omega) hC (xs (nI (7 * j) + nI 1).toNatClampNeg) (xs (nI (7 * j) + nI 2).toNatClampNeg)
  refine lv_aload_n hx hb dL_law_500 rfl (lv_at hl 1 rfl) ?_
  refine lv_aload_n hx hb dL_law_501 rfl (lv_at hl 0 rfl) ?_
  refine lv_iload_n hx hb dL_law_502 rfl (lv_at hl 3 rfl) ?_
  refine lv_iconst (v := nI 1) hx hb dL_law_503 (by decide) ?_
  refine lv_iadd hx hb dL_law_504 ?_
  refine va_sld hx hb hX hbl hbA hW.2.2 (lw_in hj hL (by decide)) dL_law_505 ?_
  refine lv_aload_n hx hb dL_law_506 rfl (lv_at hl 0 rfl) ?_
  refine lv_iload_n hx hb dL_law_507 rfl (lv_at hl 3 rfl) ?_
  refine lv_iconst (v := nI 2) hx hb dL_law_508 (by decide) ?_
  refine lv_iadd hx hb dL_law_509 ?_
  refine va_sld hx hb hX hbl hbA hW.2.2 (lw_in hj hL (by decide)) dL_law_510 ?_
  refine lwx_i (As := [.int (xs (nI (7 * j) + nI 1).toNatClampNeg), .int (xs (nI (7 * j) + nI 2).toNatClampNeg)]) (rest := []) S C (c_X7_of l C.1 e1) (cwV 2 hts gL_law_X7_of rfl rfl rfl hd_X7_of ⟨(Nat.le_of_ble_eq_true rfl), (Nat.le_of_ble_eq_true rfl)⟩) hW rfl rfl hl.1 (Nat.le_of_ble_eq_true rfl) dL_law_511 (fun H locs hW => ?_)
  refine lv_aload_n hx hb dL_law_514 rfl (lv_at hl 2 rfl) ?_
  refine lv_aload_n hx hb dL_law_515 rfl (lv_at hl 0 rfl) ?_
  refine lv_iload_n hx hb dL_law_516 rfl (lv_at hl 3 rfl) ?_
  refine lv_iconst (v := nI 1) hx hb dL_law_517 (by decide) ?_
  refine lv_iadd hx hb dL_law_518 ?_
  refine va_sld hx hb hX hbl hbA hW.2.2 (lw_in hj hL (by decide)) dL_law_519 ?_
  refine lv_aload_n hx hb dL_law_520 rfl (lv_at hl 0 rfl) ?_
  refine lv_iload_n hx hb dL_law_521 rfl (lv_at hl 3 rfl) ?_
  refine lv_iconst (v := nI 2) hx hb dL_law_522 (by decide) ?_
  refine lv_iadd hx hb dL_law_523 ?_
  refine va_sld hx hb hX hbl hbA hW.2.2 (lw_in hj hL (by decide)) dL_law_524 ?_
  refine lwm_i (As := [.int (xs (nI (7 * j) + nI 1).toNatClampNeg), .int (xs (nI (7 * j) + nI 2).toNatClampNeg)]) (rest := [.int r]) S C (c_X8_of l C.2.1 e2) (cwV 2 hts gL_law_X8_of rfl rfl rfl hd_X8_of ⟨(Nat.le_of_ble_eq_true rfl), (Nat.le_of_ble_eq_true rfl)⟩) hW rfl rfl hl.1 (Nat.le_of_ble_eq_true rfl) dL_law_525 (fun H locs hW => ?_)
  refine lv_icmp_eq (tgt := 1037) hx hb dL_law_528 (by decide) (fun _ => ?_) (fun q => absurd rfl q)
  exact kk σ' τ' H locs hC' hW
set_option maxHeartbeats 4000000 in
set_option maxRecDepth 100000 in
theorem lw_c15 {p : Program} {l : Launch} {e : Env} {s : State} {m : MethodId} {below : List Frame} {meth : Method} {c : Code} {Q : State → Prop} {D : va_G} {Y : Nat → ClassId} {A B : ss_A} {b L j : Nat} {xs : Nat → Int32} (S : CallFix p m c cL_law 4 s #[Value.ref b] lw_tbl RL) (C : LC D Y A B s) (hX : va_X b L xs s s.heap) (hbl : b < s.heap.size) (hL : L ≤ 448) (hj : 7 * j + 7 ≤ L) {σ τ : ss_M} (hC : Cpl j σ τ) {H : Heap} {locs : List Loc} (hW : LW D Y A B σ τ s H locs) {ls : Array Slot} (hl : lv_has ls 4 [(0, .ref b), (1, .ref (A 0 6 0)), (2, .ref (B 0 7 0)), (3, .int (nI (7 * j)))])
    (kk : ∀ (σ' τ' : ss_M) (H1 : Heap) (locs1 : List Loc), Cpl (j + 1) σ' τ' → LW D Y A B σ' τ' s H1 locs1 → W p l e room_1 s m #[Value.ref b] below meth c H1 locs1 600000 7302250 Q (F0 m 1037 ls [])) : W p l e room_1 s m #[Value.ref b] below meth c H locs 600000 7302250 Q (F0 m 533 ls []) := by
  obtain ⟨hx, hb, hml, hown, hts⟩ := id S
  have hbA : ¬ (fun q : Nat => s.heap.size ≤ q) b := Nat.not_le.mpr hbl
  obtain ⟨r, σ', τ', e1, e2, hC'⟩ := sim_costs (by omega) hC (xs (nI (7 * j) + nI 1).toNatClampNeg)
  refine lv_aload_n hx hb dL_law_533 rfl (lv_at hl 1 rfl) ?_
  refine lv_aload_n hx hb dL_law_534 rfl (lv_at hl 0 rfl) ?_
  refine lv_iload_n hx hb dL_law_535 rfl (lv_at hl 3 rfl) ?_
  refine lv_iconst (v := nI 1) hx hb dL_law_536 (by decide) ?_
  refine lv_iadd hx hb dL_law_537 ?_
  refine va_sld hx hb hX hbl hbA hW.2.2 (lw_in hj hL (by decide)) dL_law_538 ?_
  refine lwx_i (As := [.int (xs (nI (7 * j) + nI 1).toNatClampNeg)]) (rest := []) S C (c_X7_costs l C.1 e1) (cwV 1 hts gL_law_X7_costs rfl rfl rfl hd_X7_costs ⟨(Nat.le_of_ble_eq_true rfl), (Nat.le_of_ble_eq_true rfl)⟩) hW rfl rfl hl.1 (Nat.le_of_ble_eq_true rfl) dL_law_539 (fun H locs hW => ?_)
  refine lv_aload_n hx hb dL_law_542 rfl (lv_at hl 2 rfl) ?_
  refine lv_aload_n hx hb dL_law_543 rfl (lv_at hl 0 rfl) ?_
  refine lv_iload_n hx hb dL_law_544 rfl (lv_at hl 3 rfl) ?_
  refine lv_iconst (v := nI 1) hx hb dL_law_545 (by decide) ?_
  refine lv_iadd hx hb dL_law_546 ?_
  refine va_sld hx hb hX hbl hbA hW.2.2 (lw_in hj hL (by decide)) dL_law_547 ?_
  refine lwm_i (As := [.int (xs (nI (7 * j) + nI 1).toNatClampNeg)]) (rest := [.int r]) S C (c_X8_costs l C.2.1 e2) (cwV 1 hts gL_law_X8_costs rfl rfl rfl hd_X8_costs ⟨(Nat.le_of_ble_eq_true rfl), (Nat.le_of_ble_eq_true rfl)⟩) hW rfl rfl hl.1 (Nat.le_of_ble_eq_true rfl) dL_law_548 (fun H locs hW => ?_)
  refine lv_icmp_eq (tgt := 1037) hx hb dL_law_551 (by decide) (fun _ => ?_) (fun q => absurd rfl q)
  exact kk σ' τ' H locs hC' hW
set_option maxHeartbeats 4000000 in
set_option maxRecDepth 100000 in
theorem lw_c16 {p : Program} {l : Launch} {e : Env} {s : State} {m : MethodId} {below : List Frame} {meth : Method} {c : Code} {Q : State → Prop} {D : va_G} {Y : Nat → ClassId} {A B : ss_A} {b L j : Nat} {xs : Nat → Int32} (S : CallFix p m c cL_law 4 s #[Value.ref b] lw_tbl RL) (C : LC D Y A B s) (hX : va_X b L xs s s.heap) (hbl : b < s.heap.size) (hL : L ≤ 448) (hj : 7 * j + 7 ≤ L) {σ τ : ss_M} (hC : Cpl j σ τ) {H : Heap} {locs : List Loc} (hW : LW D Y A B σ τ s H locs) {ls : Array Slot} (hl : lv_has ls 4 [(0, .ref b), (1, .ref (A 0 6 0)), (2, .ref (B 0 7 0)), (3, .int (nI (7 * j)))])
    (kk : ∀ (σ' τ' : ss_M) (H1 : Heap) (locs1 : List Loc), Cpl (j + 1) σ' τ' → LW D Y A B σ' τ' s H1 locs1 → W p l e room_1 s m #[Value.ref b] below meth c H1 locs1 600000 7302250 Q (F0 m 1037 ls [])) : W p l e room_1 s m #[Value.ref b] below meth c H locs 600000 7302250 Q (F0 m 556 ls []) := by
  obtain ⟨hx, hb, hml, hown, hts⟩ := id S
  have hbA : ¬ (fun q : Nat => s.heap.size ≤ q) b := Nat.not_le.mpr hbl
  obtain ⟨r, σ', τ', e1, e2, hC'⟩ := sim_gives hC (xs (nI (7 * j) + nI 1).toNatClampNeg) (xs (nI (7 * j) + nI 2).toNatClampNeg)
  refine lv_aload_n hx hb dL_law_556 rfl (lv_at hl 1 rfl) ?_
  refine lv_aload_n hx hb dL_law_557 rfl (lv_at hl 0 rfl) ?_
  refine lv_iload_n hx hb dL_law_558 rfl (lv_at hl 3 rfl) ?_
  refine lv_iconst (v := nI 1) hx hb dL_law_559 (by decide) ?_
  refine lv_iadd hx hb dL_law_560 ?_
  refine va_sld hx hb hX hbl hbA hW.2.2 (lw_in hj hL (by decide)) dL_law_561 ?_
  refine lv_aload_n hx hb dL_law_562 rfl (lv_at hl 0 rfl) ?_
  refine lv_iload_n hx hb dL_law_563 rfl (lv_at hl 3 rfl) ?_
  refine lv_iconst (v := nI 2) hx hb dL_law_564 (by decide) ?_
  refine lv_iadd hx hb dL_law_565 ?_
  refine va_sld hx hb hX hbl hbA hW.2.2 (lw_in hj hL (by decide)) dL_law_566 ?_
  refine lwx_i (As := [.int (xs (nI (7 * j) + nI 1).toNatClampNeg), .int (xs (nI (7 * j) + nI 2).toNatClampNeg)]) (rest := []) S C (c_X7_gives l C.1 e1) (cwV 2 hts gL_law_X7_gives rfl rfl rfl hd_X7_gives ⟨(Nat.le_of_ble_eq_true rfl), (Nat.le_of_ble_eq_true rfl)⟩) hW rfl rfl hl.1 (Nat.le_of_ble_eq_true rfl) dL_law_567 (fun H locs hW => ?_)
  refine lv_aload_n hx hb dL_law_570 rfl (lv_at hl 2 rfl) ?_
  refine lv_aload_n hx hb dL_law_571 rfl (lv_at hl 0 rfl) ?_
  refine lv_iload_n hx hb dL_law_572 rfl (lv_at hl 3 rfl) ?_
  refine lv_iconst (v := nI 1) hx hb dL_law_573 (by decide) ?_
  refine lv_iadd hx hb dL_law_574 ?_
  refine va_sld hx hb hX hbl hbA hW.2.2 (lw_in hj hL (by decide)) dL_law_575 ?_
  refine lv_aload_n hx hb dL_law_576 rfl (lv_at hl 0 rfl) ?_
  refine lv_iload_n hx hb dL_law_577 rfl (lv_at hl 3 rfl) ?_
  refine lv_iconst (v := nI 2) hx hb dL_law_578 (by decide) ?_
  refine lv_iadd hx hb dL_law_579 ?_
  refine va_sld hx hb hX hbl hbA hW.2.2 (lw_in hj hL (by decide)) dL_law_580 ?_
  refine lwm_i (As := [.int (xs (nI (7 * j) + nI 1).toNatClampNeg), .int (xs (nI (7 * j) + nI 2).toNatClampNeg)]) (rest := [.int r]) S C (c_X8_gives l C.2.1 e2) (cwV 2 hts gL_law_X8_gives rfl rfl rfl hd_X8_gives ⟨(Nat.le_of_ble_eq_true rfl), (Nat.le_of_ble_eq_true rfl)⟩) hW rfl rfl hl.1 (Nat.le_of_ble_eq_true rfl) dL_law_581 (fun H locs hW => ?_)
  refine lv_icmp_eq (tgt := 1037) hx hb dL_law_584 (by decide) (fun _ => ?_) (fun q => absurd rfl q)
  exact kk σ' τ' H locs hC' hW
set_option maxHeartbeats 4000000 in
set_option maxRecDepth 100000 in
theorem lw_c17 {p : Program} {l : Launch} {e : Env} {s : State} {m : MethodId} {below : List Frame} {meth : Method} {c : Code} {Q : State → Prop} {D : va_G} {Y : Nat → ClassId} {A B : ss_A} {b L j : Nat} {xs : Nat → Int32} (S : CallFix p m c cL_law 4 s #[Value.ref b] lw_tbl RL) (C : LC D Y A B s) (hX : va_X b L xs s s.heap) (hbl : b < s.heap.size) (hL : L ≤ 448) (hj : 7 * j + 7 ≤ L) {σ τ : ss_M} (hC : Cpl j σ τ) {H : Heap} {locs : List Loc} (hW : LW D Y A B σ τ s H locs) {ls : Array Slot} (hl : lv_has ls 4 [(0, .ref b), (1, .ref (A 0 6 0)), (2, .ref (B 0 7 0)), (3, .int (nI (7 * j)))])
    (kk : ∀ (σ' τ' : ss_M) (H1 : Heap) (locs1 : List Loc), Cpl (j + 1) σ' τ' → LW D Y A B σ' τ' s H1 locs1 → W p l e room_1 s m #[Value.ref b] below meth c H1 locs1 600000 7302250 Q (F0 m 1037 ls [])) : W p l e room_1 s m #[Value.ref b] below meth c H locs 600000 7302250 Q (F0 m 589 ls []) := by
  obtain ⟨hx, hb, hml, hown, hts⟩ := id S
  have hbA : ¬ (fun q : Nat => s.heap.size ≤ q) b := Nat.not_le.mpr hbl
  obtain ⟨r, σ', τ', e1, e2, hC'⟩ := sim_stuck hC 
  refine lv_aload_n hx hb dL_law_589 rfl (lv_at hl 1 rfl) ?_
  refine lwx_i (As := []) (rest := []) S C (c_X7_stuck l C.1 e1) (cwV 0 hts gL_law_X7_stuck rfl rfl rfl hd_X7_stuck ⟨(Nat.le_of_ble_eq_true rfl), (Nat.le_of_ble_eq_true rfl)⟩) hW rfl rfl hl.1 (Nat.le_of_ble_eq_true rfl) dL_law_590 (fun H locs hW => ?_)
  refine lv_aload_n hx hb dL_law_593 rfl (lv_at hl 2 rfl) ?_
  refine lwm_i (As := []) (rest := [.int r]) S C (c_X8_stuck l C.2.1 e2) (cwV 0 hts gL_law_X8_stuck rfl rfl rfl hd_X8_stuck ⟨(Nat.le_of_ble_eq_true rfl), (Nat.le_of_ble_eq_true rfl)⟩) hW rfl rfl hl.1 (Nat.le_of_ble_eq_true rfl) dL_law_594 (fun H locs hW => ?_)
  refine lv_icmp_eq (tgt := 1037) hx hb dL_law_597 (by decide) (fun _ => ?_) (fun q => absurd rfl q)
  exact kk σ' τ' H locs hC' hW
