/-! the JDK's members over the three String constants -/
def sC (t k : Nat) : Int32 := (bytW.getD t []).getD k 0 &&& 255
def rmJ (k : Nat) : Room := { frames := 2 * k, cells := 0, slots := 0, locals := 100 * k }
theorem lenW_4 : ∀ t, t < 3 → lenW.getD t 0 = 4 := by decide
section SSJ
variable {p : Program} {l : Launch} {e : Env} {R : Room} {s : State} {m : MethodId} {args : Array Value} {below : List Frame} {meth : Method} {c : Code} {H : Heap} {locs : List Loc} {cells slots : Nat} {Q : State → Prop}
variable {cc : ByteArray} {pc : Nat} {ls : Array Slot} {rest : List Value} {w : Nat} {D : va_G} {Y : Nat → ClassId} {A : ss_A} {σ : ss_M} {H0 : Heap} {own : String} {Ts : List Cond}
theorem rvX_i {nL n index maxL : Nat} {y : MethodName} {bytes : ByteArray} {ret : Option FieldType} {ws : List Cond} {rm : Room} {C : String} {b : Nat} {As st0 : List Value} {σ' : ss_M} {r : Int32} (S : CallFix p m c cc nL s args Ts own) (hM : Met l y ws rm (Pc0 w D Y A σ (.ref b :: As)) (Qi0 w D Y A r σ') 0 0 (FA w A)) (cw : CallW R s args own C index y bytes maxL ret ws rm 0 0 n) (hW : sW w D Y A σ s s.heap H locs) (hrc : ∃ cell : Cell, H[b]? = some cell ∧ cell.vm.isStatics = false ∧ s.vm.findClass C = some cell.cls) (hst : st0 = As.reverse ++ .ref b :: rest) (hn : As.length = n) (hsz : ls.size = nL) (hR : (rest.map fun v => v.category).sum ≤ 8) (hcs : cells ≤ R.cells ∧ slots ≤ R.slots) (hdg : decode cc pc = .ok (.invokevirtual index, 3)) (kk : ∀ (H1 : Heap) (locs1 : List Loc), sW w D Y A σ' s s.heap H1 locs1 → W p l e R s m args below meth c H1 locs1 cells slots Q (F0 m (pc + 3) ls (.int r :: rest))) : W p l e R s m args below meth c H locs cells slots Q (F0 m pc ls st0) :=
  va_calli (va_runV (As := As) (rest := rest) (b := b) (g := F0 m pc ls st0) S hM cw ⟨ss_blind, hrc, ss_pre hW⟩ rfl hn hsz hst (lv_room hR) hdg hcs) hW.2.2.2.1 (fun q _ h => h) (fun q h => h) (fun r1 u t H1 locs1 ht hvm hp hB _ _ hS => by obtain ⟨rfl, rfl⟩ := hp; exact kk H1 locs1 (ss_back hW ht hvm hB hS))
theorem ss_strC {t : Nat} (hW : sW 0 D Y A σ s s.heap H locs) (ht : t < 3) : ∃ cell : Cell, H[A 5 0 t]? = some cell ∧ cell.vm.isStatics = false ∧ s.vm.findClass "java/lang/String" = some cell.cls := vk_recv (hW.2.2.2.2 rfl).1 ht hW.2.2.2.1
theorem re_n (hx : p.tables.exec = Jvm.exec) (hb : c.code = cc) {ty : FieldType} (hr : meth.sig.returnType = some ty) (hlocks : meth.locks = false) (hW : sW w D Y A σ s s.heap H locs) {v r : Int32} {σ' : ss_M} (hv : narrow ty (.int v) = .int v) (hf : (v, σ) = (r, σ')) (hdg : decode cc pc = .ok (.ireturn, 1)) : W p l e R s m args below meth c H locs 0 0 (MQ below (Qi0 w D Y A r σ') args s 0 0 (FA w A)) (F0 m pc ls [.int v]) :=
  W.zret hx hb hr hv (fun t ht hw => ⟨⟨v, σ', rfl, ⟨congrArg Prod.fst hf, rfl⟩, ss_end hW (congrArg Prod.snd hf) ht hw⟩, hW.2.2.2.1.F ht⟩) hW.2.2.2.1.2.2 hdg hlocks
end SSJ
theorem hd_J0_coder_7d493 : yJ0_coder_7d493.cls = RJ0 ∧ yJ0_coder_7d493.cls ≠ "java/lang/invoke/MethodHandle" ∧ yJ0_coder_7d493.cls ≠ "java/lang/invoke/VarHandle" ∧ (parseMethodDescriptor yJ0_coder_7d493.desc).map (fun d => d.parameters.length) = some 0 := by decide +kernel
set_option maxHeartbeats 4000000 in
set_option maxRecDepth 100000 in
theorem c_J0_coder_7d493 (l : Launch) {D : va_G} {Y : Nat → ClassId} {A : ss_A} (hAD : AD 0 A) {t : Nat} (ht : t < 3) {σ : ss_M} : Met l yJ0_coder_7d493 wsJ0_coder_7d493 (rmJ 0) (Pc0 0 D Y A σ [.ref (A 5 0 t)]) (Qi0 0 D Y A 0 σ) 0 0 (FA 0 A) := by
  refine Met0 (cc := cJ0_coder_7d493) (maxL := 1) (ret := some .byte) (own := RJ0) (by decide +kernel) rfl hAD rfl (Nat.le_of_ble_eq_true rfl) ?_
  intro p e s m args below meth c S hr hlocks hW ls hl
  obtain ⟨hx, hb, hml, hown, hts⟩ := id S
  have hE := hW.2.2.2.2 rfl
  have hl : lv_has ls 1 [(0, .ref (A 5 0 t))] := hl
  refine va_gets hx hb hE.2.2.2.2.1 hW.2.2.2.1 hown (hts _ (List.mem_of_getElem? (i := 1) rfl)) (fun _ h => h) dJ0_coder_7d493_0 ?_
  refine lv_if_eq (tgt := 13) hx hb dJ0_coder_7d493_3 (by decide) (fun q => absurd q (by decide)) (fun _ => ?_)
  refine lv_aload_n hx hb dJ0_coder_7d493_6 rfl (lv_at hl 0 rfl) ?_
  refine vk_getf hx hb (hE.1.1 t ht).2.1 hW.2.2.2.1 hown (hts _ (List.mem_of_getElem? (i := 2) rfl)) (fun _ h => h) dJ0_coder_7d493_7 ?_
  refine lv_goto (tgt := 14) hx hb dJ0_coder_7d493_10 (by decide) ?_
  exact re_n hx hb hr hlocks hW (by decide) rfl dJ0_coder_7d493_14
theorem hd_J0_length_8abf5 : yJ0_length_8abf5.cls = RJ0 ∧ yJ0_length_8abf5.cls ≠ "java/lang/invoke/MethodHandle" ∧ yJ0_length_8abf5.cls ≠ "java/lang/invoke/VarHandle" ∧ (parseMethodDescriptor yJ0_length_8abf5.desc).map (fun d => d.parameters.length) = some 0 := by decide +kernel
set_option maxHeartbeats 4000000 in
set_option maxRecDepth 100000 in
theorem c_J0_length_8abf5 (l : Launch) {D : va_G} {Y : Nat → ClassId} {A : ss_A} (hAD : AD 0 A) {t : Nat} (ht : t < 3) {σ : ss_M} : Met l yJ0_length_8abf5 wsJ0_length_8abf5 (rmJ 1) (Pc0 0 D Y A σ [.ref (A 5 0 t)]) (Qi0 0 D Y A 4 σ) 0 0 (FA 0 A) := by
  refine Met0 (cc := cJ0_length_8abf5) (maxL := 1) (ret := some .int) (own := RJ0) (by decide +kernel) rfl hAD rfl (Nat.le_of_ble_eq_true rfl) ?_
  intro p e s m args below meth c S hr hlocks hW ls hl
  obtain ⟨hx, hb, hml, hown, hts⟩ := id S
  have hE := hW.2.2.2.2 rfl
  have hl : lv_has ls 1 [(0, .ref (A 5 0 t))] := hl
  refine lv_aload_n hx hb dJ0_length_8abf5_0 rfl (lv_at hl 0 rfl) ?_
  refine vk_getf hx hb (hE.1.1 t ht).2.2.1 hW.2.2.2.1 hown (hts _ (List.mem_of_getElem? (i := 1) rfl)) (fun _ h => h) dJ0_length_8abf5_1 ?_
  refine va_tlen (v := (4 : Int32)) hx hb (hE.1.1 t ht).2.2.2 hW.2.2.2.1 (by rw [lenW_4 t ht]; decide) dJ0_length_8abf5_4 ?_
  refine lv_aload_n hx hb dJ0_length_8abf5_5 rfl (lv_at hl 0 rfl) ?_
  refine rvX_i S (c_J0_coder_7d493 l hAD ht) (cwV 0 hts gJ0_length_8abf5_J0_coder_7d493 rfl rfl rfl hd_J0_coder_7d493 ⟨(Nat.le_of_ble_eq_true rfl), (Nat.le_of_ble_eq_true rfl)⟩) hW (ss_strC hW ht) rfl rfl hl.1 (Nat.le_of_ble_eq_true rfl) ⟨Nat.zero_le _, Nat.zero_le _⟩ dJ0_length_8abf5_6 (fun H locs hW => ?_)
  refine lv_ishr hx hb dJ0_length_8abf5_9 ?_
  exact re_i hx hb hr hlocks hW (by rw [show ((4 : Int32) >>> ((0 : Int32) &&& 31)) = 4 from by decide]) dJ0_length_8abf5_10
theorem hd_J0_isLatin1_aae02 : yJ0_isLatin1_aae02.cls = RJ0 ∧ yJ0_isLatin1_aae02.cls ≠ "java/lang/invoke/MethodHandle" ∧ yJ0_isLatin1_aae02.cls ≠ "java/lang/invoke/VarHandle" ∧ (parseMethodDescriptor yJ0_isLatin1_aae02.desc).map (fun d => d.parameters.length) = some 0 := by decide +kernel
set_option maxHeartbeats 4000000 in
set_option maxRecDepth 100000 in
theorem c_J0_isLatin1_aae02 (l : Launch) {D : va_G} {Y : Nat → ClassId} {A : ss_A} (hAD : AD 0 A) {t : Nat} (ht : t < 3) {σ : ss_M} : Met l yJ0_isLatin1_aae02 wsJ0_isLatin1_aae02 (rmJ 0) (Pc0 0 D Y A σ [.ref (A 5 0 t)]) (Qi0 0 D Y A 1 σ) 0 0 (FA 0 A) := by
  refine Met0 (cc := cJ0_isLatin1_aae02) (maxL := 1) (ret := some .boolean) (own := RJ0) (by decide +kernel) rfl hAD rfl (Nat.le_of_ble_eq_true rfl) ?_
  intro p e s m args below meth c S hr hlocks hW ls hl
  obtain ⟨hx, hb, hml, hown, hts⟩ := id S
  have hE := hW.2.2.2.2 rfl
  have hl : lv_has ls 1 [(0, .ref (A 5 0 t))] := hl
  refine va_gets hx hb hE.2.2.2.2.1 hW.2.2.2.1 hown (hts _ (List.mem_of_getElem? (i := 1) rfl)) (fun _ h => h) dJ0_isLatin1_aae02_0 ?_
  refine lv_if_eq (tgt := 17) hx hb dJ0_isLatin1_aae02_3 (by decide) (fun q => absurd q (by decide)) (fun _ => ?_)
  refine lv_aload_n hx hb dJ0_isLatin1_aae02_6 rfl (lv_at hl 0 rfl) ?_
  refine vk_getf hx hb (hE.1.1 t ht).2.1 hW.2.2.2.1 hown (hts _ (List.mem_of_getElem? (i := 2) rfl)) (fun _ h => h) dJ0_isLatin1_aae02_7 ?_
  refine lv_if_ne (tgt := 17) hx hb dJ0_isLatin1_aae02_10 (by decide) (fun q => absurd rfl q) (fun _ => ?_)
  refine lv_iconst (v := (1 : Int32)) hx hb dJ0_isLatin1_aae02_13 (by decide) ?_
  refine lv_goto (tgt := 18) hx hb dJ0_isLatin1_aae02_14 (by decide) ?_
  exact re_n hx hb hr hlocks hW (by decide) rfl dJ0_isLatin1_aae02_18
theorem hd_J3_checkIndex_8e157 : yJ3_checkIndex_8e157.cls ≠ "java/lang/invoke/MethodHandle" ∧ yJ3_checkIndex_8e157.cls ≠ "java/lang/invoke/VarHandle" ∧ (parseMethodDescriptor yJ3_checkIndex_8e157.desc).map (fun d => d.parameters.length) = some 3 := by decide +kernel
set_option maxHeartbeats 4000000 in
set_option maxRecDepth 100000 in
theorem c_J3_checkIndex_8e157 (l : Launch) {D : va_G} {Y : Nat → ClassId} {A : ss_A} (hAD : AD 0 A) {i n : Int32} {v : Option Nat} (h0 : ¬ i < 0) (h1 : i < n) {σ : ss_M} : Met l yJ3_checkIndex_8e157 wsJ3_checkIndex_8e157 (rmJ 0) (Pc0 0 D Y A σ [.int i, .int n, va_rf v]) (Qi0 0 D Y A i σ) 0 0 (FA 0 A) := by
  cases v
  all_goals
    refine Met0 (cc := cJ3_checkIndex_8e157) (maxL := 3) (ret := some .int) (own := RJ3) (by decide +kernel) rfl hAD rfl (Nat.le_of_ble_eq_true rfl) ?_
    intro p e s m args below meth c S hr hlocks hW ls hl
    obtain ⟨hx, hb, hml, hown, hts⟩ := id S
    have hE := hW.2.2.2.2 rfl
    have hl : lv_has ls 3 [(0, .int i), (1, .int n)] := lv_sub hl [0, 1] rfl
    refine lv_iload_n hx hb dJ3_checkIndex_8e157_0 rfl (lv_at hl 0 rfl) ?_
    refine lv_if_lt (tgt := 9) hx hb dJ3_checkIndex_8e157_1 (by decide) (fun q => absurd q h0) (fun _ => ?_)
    refine lv_iload_n hx hb dJ3_checkIndex_8e157_4 rfl (lv_at hl 0 rfl) ?_
    refine lv_iload_n hx hb dJ3_checkIndex_8e157_5 rfl (lv_at hl 1 rfl) ?_
    refine lv_icmp_lt (tgt := 16) hx hb dJ3_checkIndex_8e157_6 (by decide) (fun _ => ?_) (fun q => absurd h1 q)
    refine lv_iload_n hx hb dJ3_checkIndex_8e157_16 rfl (lv_at hl 0 rfl) ?_
    exact re_i hx hb hr hlocks hW rfl dJ3_checkIndex_8e157_17
theorem hd_J0_checkIndex_df160 : yJ0_checkIndex_df160.cls ≠ "java/lang/invoke/MethodHandle" ∧ yJ0_checkIndex_df160.cls ≠ "java/lang/invoke/VarHandle" ∧ (parseMethodDescriptor yJ0_checkIndex_df160.desc).map (fun d => d.parameters.length) = some 2 := by decide +kernel
set_option maxHeartbeats 4000000 in
set_option maxRecDepth 100000 in
theorem c_J0_checkIndex_df160 (l : Launch) {D : va_G} {Y : Nat → ClassId} {A : ss_A} (hAD : AD 0 A) {i n : Int32} (h0 : ¬ i < 0) (h1 : i < n) {σ : ss_M} : Met l yJ0_checkIndex_df160 wsJ0_checkIndex_df160 (rmJ 1) (Pc0 0 D Y A σ [.int i, .int n]) (Qv0 0 D Y A σ) 0 0 (FA 0 A) := by
  refine Met0 (cc := cJ0_checkIndex_df160) (maxL := 2) (ret := none) (own := RJ0) (by decide +kernel) rfl hAD rfl (Nat.le_of_ble_eq_true rfl) ?_
  intro p e s m args below meth c S hr hlocks hW ls hl
  obtain ⟨hx, hb, hml, hown, hts⟩ := id S
  have hE := hW.2.2.2.2 rfl
  have hl : lv_has ls 2 [(0, .int i), (1, .int n)] := hl
  obtain ⟨v, hv⟩ := hE.2.2.2.2.2
  refine lv_iload_n hx hb dJ0_checkIndex_df160_0 rfl (lv_at hl 0 rfl) ?_
  refine lv_iload_n hx hb dJ0_checkIndex_df160_1 rfl (lv_at hl 1 rfl) ?_
  refine va_gets hx hb hv hW.2.2.2.1 hown (hts _ (List.mem_of_getElem? (i := 1) rfl)) (fun _ h => h) dJ0_checkIndex_df160_2 ?_
  refine rt_i S (c_J3_checkIndex_8e157 l hAD (v := v) h0 h1) (va_cwS 3 hts gJ0_checkIndex_df160_J3_checkIndex_8e157 rfl rfl rfl hd_J3_checkIndex_8e157 ⟨(Nat.le_of_ble_eq_true rfl), (Nat.le_of_ble_eq_true rfl)⟩) hW rfl rfl hl.1 (Nat.le_of_ble_eq_true rfl) ⟨Nat.zero_le _, Nat.zero_le _⟩ dJ0_checkIndex_df160_5 (fun H locs hW => ?_)
  refine lv_pop hx hb dJ0_checkIndex_df160_8 rfl ?_
  exact re_v hx hb hr hlocks hW rfl dJ0_checkIndex_df160_9
theorem hd_J1_charAt_3b067 : yJ1_charAt_3b067.cls ≠ "java/lang/invoke/MethodHandle" ∧ yJ1_charAt_3b067.cls ≠ "java/lang/invoke/VarHandle" ∧ (parseMethodDescriptor yJ1_charAt_3b067.desc).map (fun d => d.parameters.length) = some 2 := by decide +kernel
set_option maxHeartbeats 4000000 in
set_option maxRecDepth 100000 in
theorem c_J1_charAt_3b067 (l : Launch) {D : va_G} {Y : Nat → ClassId} {A : ss_A} (hAD : AD 0 A) {t : Nat} {i : Int32} (ht : t < 3) (hg : gd i 4 = true) {σ : ss_M} : Met l yJ1_charAt_3b067 wsJ1_charAt_3b067 (rmJ 2) (Pc0 0 D Y A σ [.ref (A 5 1 t), .int i]) (Qi0 0 D Y A (sC t i.toNatClampNeg) σ) 0 0 (FA 0 A) := by
  refine Met0 (cc := cJ1_charAt_3b067) (maxL := 2) (ret := some .char) (own := RJ1) (by decide +kernel) rfl hAD rfl (Nat.le_of_ble_eq_true rfl) ?_
  intro p e s m args below meth c S hr hlocks hW ls hl
  obtain ⟨hx, hb, hml, hown, hts⟩ := id S
  have hE := hW.2.2.2.2 rfl
  have hl : lv_has ls 2 [(0, .ref (A 5 1 t)), (1, .int i)] := hl
  have h0 : ¬ i < 0 := fun q => gd_in hg (Or.inl q)
  have h1 : i < (4 : Int32) := gd_lti hg (by decide)
  refine lv_iload_n hx hb dJ1_charAt_3b067_0 rfl (lv_at hl 1 rfl) ?_
  refine lv_aload_n hx hb dJ1_charAt_3b067_1 rfl (lv_at hl 0 rfl) ?_
  refine va_tlen (v := (4 : Int32)) hx hb (hE.1.1 t ht).2.2.2 hW.2.2.2.1 (by rw [lenW_4 t ht]; decide) dJ1_charAt_3b067_2 ?_
  refine rt_v S (c_J0_checkIndex_df160 l hAD h0 h1) (va_cwS 2 hts gJ1_charAt_3b067_J0_checkIndex_df160 rfl rfl rfl hd_J0_checkIndex_df160 ⟨(Nat.le_of_ble_eq_true rfl), (Nat.le_of_ble_eq_true rfl)⟩) hW rfl rfl hl.1 (Nat.le_of_ble_eq_true rfl) ⟨Nat.zero_le _, Nat.zero_le _⟩ dJ1_charAt_3b067_3 (fun H locs hW => ?_)
  refine lv_aload_n hx hb dJ1_charAt_3b067_6 rfl (lv_at hl 0 rfl) ?_
  refine lv_iload_n hx hb dJ1_charAt_3b067_7 rfl (lv_at hl 1 rfl) ?_
  refine va_tb (v := .int ((bytW.getD t []).getD i.toNatClampNeg 0)) hx hb (hE.1.1 t ht).2.2.2 hW.2.2.2.1 (by rw [lenW_4 t ht]; exact gd_in hg) rfl dJ1_charAt_3b067_8 ?_
  refine lv_sipush (v := (255 : Int32)) hx hb dJ1_charAt_3b067_9 (by decide) ?_
  refine lv_iand hx hb dJ1_charAt_3b067_12 ?_
  refine lv_i2c (v := (bytW.getD t []).getD i.toNatClampNeg 0 &&& 255) hx hb dJ1_charAt_3b067_13 (sc_c2 _) ?_
  exact re_n hx hb hr hlocks hW (sc_nar _) rfl dJ1_charAt_3b067_14
theorem hd_J0_charAt_5068e : yJ0_charAt_5068e.cls = RJ0 ∧ yJ0_charAt_5068e.cls ≠ "java/lang/invoke/MethodHandle" ∧ yJ0_charAt_5068e.cls ≠ "java/lang/invoke/VarHandle" ∧ (parseMethodDescriptor yJ0_charAt_5068e.desc).map (fun d => d.parameters.length) = some 1 := by decide +kernel
set_option maxHeartbeats 4000000 in
set_option maxRecDepth 100000 in
theorem c_J0_charAt_5068e (l : Launch) {D : va_G} {Y : Nat → ClassId} {A : ss_A} (hAD : AD 0 A) {t : Nat} {i : Int32} (ht : t < 3) (hg : gd i 4 = true) {σ : ss_M} : Met l yJ0_charAt_5068e wsJ0_charAt_5068e (rmJ 3) (Pc0 0 D Y A σ [.ref (A 5 0 t), .int i]) (Qi0 0 D Y A (sC t i.toNatClampNeg) σ) 0 0 (FA 0 A) := by
  refine Met0 (cc := cJ0_charAt_5068e) (maxL := 2) (ret := some .char) (own := RJ0) (by decide +kernel) rfl hAD rfl (Nat.le_of_ble_eq_true rfl) ?_
  intro p e s m args below meth c S hr hlocks hW ls hl
  obtain ⟨hx, hb, hml, hown, hts⟩ := id S
  have hE := hW.2.2.2.2 rfl
  have hl : lv_has ls 2 [(0, .ref (A 5 0 t)), (1, .int i)] := hl
  refine lv_aload_n hx hb dJ0_charAt_5068e_0 rfl (lv_at hl 0 rfl) ?_
  refine rvX_i S (c_J0_isLatin1_aae02 l hAD ht) (cwV 0 hts gJ0_charAt_5068e_J0_isLatin1_aae02 rfl rfl rfl hd_J0_isLatin1_aae02 ⟨(Nat.le_of_ble_eq_true rfl), (Nat.le_of_ble_eq_true rfl)⟩) hW (ss_strC hW ht) rfl rfl hl.1 (Nat.le_of_ble_eq_true rfl) ⟨Nat.zero_le _, Nat.zero_le _⟩ dJ0_charAt_5068e_1 (fun H locs hW => ?_)
  refine lv_if_eq (tgt := 16) hx hb dJ0_charAt_5068e_4 (by decide) (fun q => absurd q (by decide)) (fun _ => ?_)
  refine lv_aload_n hx hb dJ0_charAt_5068e_7 rfl (lv_at hl 0 rfl) ?_
  refine vk_getf hx hb (hE.1.1 t ht).2.2.1 hW.2.2.2.1 hown (hts _ (List.mem_of_getElem? (i := 1) rfl)) (fun _ h => h) dJ0_charAt_5068e_8 ?_
  refine lv_iload_n hx hb dJ0_charAt_5068e_11 rfl (lv_at hl 1 rfl) ?_
  refine rt_i S (c_J1_charAt_3b067 l hAD ht hg) (va_cwS 2 hts gJ0_charAt_5068e_J1_charAt_3b067 rfl rfl rfl hd_J1_charAt_3b067 ⟨(Nat.le_of_ble_eq_true rfl), (Nat.le_of_ble_eq_true rfl)⟩) hW rfl rfl hl.1 (Nat.le_of_ble_eq_true rfl) ⟨Nat.zero_le _, Nat.zero_le _⟩ dJ0_charAt_5068e_12 (fun H locs hW => ?_)
  exact re_n hx hb hr hlocks hW (sc_nar _) rfl dJ0_charAt_5068e_15
