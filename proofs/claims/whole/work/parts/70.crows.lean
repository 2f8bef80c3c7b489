/-! CONSTRUCTORS: rows over worlds of any length -/
theorem yK {D : va_G} {cl : List vw_C} {tys : List (ClassId × FieldType)} {s : State} {i j : Nat} {c1 c2 : ClassId} {ty : FieldType} (hK : va_K D cl tys s) (h1 : tys[i]? = some (c1, ty)) (h2 : tys[j]? = some (c2, ty)) : c1 = c2 := by
  have a := (hK.2 i _ h1).2
  have b := (hK.2 j _ h2).2
  cases ty with
  | object C =>
    obtain ⟨_, _, _, _, _, a⟩ := a
    obtain ⟨_, _, _, _, _, b⟩ := b
    exact Option.some.inj (a.symm.trans b)
  | _ => exact Option.some.inj (a.symm.trans b)
/-- cells side by side -/
theorem va_Pr {D : va_G} {cl : List vw_C} {a b : va_W} {H : Heap} (h : va_P D cl (a ++ b) H) : va_P D cl b H := fun k q hk => h (a.length + k) q (by
  rw [List.getElem?_append_right (Nat.le_add_right _ _), Nat.add_sub_cancel_left]
  exact hk)
theorem va_Pl {D : va_G} {cl : List vw_C} {a b : va_W} {H : Heap} (h : va_P D cl (a ++ b) H) : va_P D cl a H := fun k q hk => h k q (by
  rw [List.getElem?_append_left (List.getElem?_eq_some_iff.mp hk).1]
  exact hk)
theorem va_Dr {A : Nat → Prop} {a b : va_W} (h : va_D A (a ++ b)) : va_D A b := by
  have e : ∀ (k : Nat) (q : Nat × va_E), b[k]? = some q → (a ++ b)[a.length + k]? = some q := fun k q hk => by
    rw [List.getElem?_append_right (Nat.le_add_right _ _), Nat.add_sub_cancel_left]
    exact hk
  exact ⟨fun i j p q hi hj hpq => by have := h.1 _ _ p q (e i p hi) (e j q hj) hpq; omega, fun k q hk => h.2 _ q (e k q hk)⟩
theorem va_Dl {A : Nat → Prop} {a b : va_W} (h : va_D A (a ++ b)) : va_D A a := by
  have e : ∀ (k : Nat) (q : Nat × va_E), a[k]? = some q → (a ++ b)[k]? = some q := fun k q hk => by
    rw [List.getElem?_append_left (List.getElem?_eq_some_iff.mp hk).1]
    exact hk
  exact ⟨fun i j p q hi hj hpq => h.1 i j p q (e i p hi) (e j q hj) hpq, fun k q hk => h.2 k q (e k q hk)⟩
theorem va_Dx {A : Nat → Prop} {a b : va_W} (h : va_D A (a ++ b)) : ∀ (i j : Nat) (p q : Nat × va_E), a[i]? = some p → b[j]? = some q → p.1 ≠ q.1 := by
  intro i j p q hi hj hpq
  have hl := (List.getElem?_eq_some_iff.mp hi).1
  have h1 : (a ++ b)[i]? = some p := by rw [List.getElem?_append_left hl]; exact hi
  have h2 : (a ++ b)[a.length + j]? = some q := by rw [List.getElem?_append_right (Nat.le_add_right _ _), Nat.add_sub_cancel_left]; exact hj
  have := h.1 _ _ p q h1 h2 hpq
  omega
theorem va_Psw {D : va_G} {cl : List vw_C} {a b : va_W} {H : Heap} (h : va_P D cl (a ++ b) H) : va_P D cl (b ++ a) H := (va_Pr h).app (va_Pl h)
theorem va_Dsw {A : Nat → Prop} {a b : va_W} (h : va_D A (a ++ b)) : va_D A (b ++ a) := (va_Dr h).app (va_Dl h) (fun i j p q hi hj hpq => va_Dx h j i q p hj hi hpq.symm)
/-- the last cell comes behind the first -/
theorem va_P2 {D : va_G} {cl : List vw_C} {o c : Nat × va_E} {X : va_W} {H : Heap} (h : va_P D cl ((o :: X) ++ [c]) H) : va_P D cl (o :: c :: X) H := by
  have h1 : va_P D cl ([o] ++ (X ++ [c])) H := h
  exact (va_Pl h1).app (va_Psw (va_Pr h1))
theorem va_D2 {A : Nat → Prop} {o c : Nat × va_E} {X : va_W} (h : va_D A ((o :: X) ++ [c])) : va_D A (o :: c :: X) := by
  have h1 : va_D A ([o] ++ (X ++ [c])) := h
  refine (va_Dl h1).app (va_Dsw (va_Dr h1)) (fun i j p q hi hj hpq => ?_)
  have hj' : ([c] ++ X)[j]? = some q := hj
  rcases List.mem_append.mp (List.mem_of_getElem? hj') with m | m
  · obtain ⟨k, hk⟩ := List.getElem?_of_mem (List.mem_append_right X m)
    exact va_Dx h1 i k p q hi hk hpq
  · obtain ⟨k, hk⟩ := List.getElem?_of_mem (List.mem_append_left [c] m)
    exact va_Dx h1 i k p q hi hk hpq
theorem va_lastc {X Z : va_W} {c : Nat × va_E} : (X ++ c :: Z)[X.length]? = some c := by
  rw [List.getElem?_append_right (Nat.le_refl _), Nat.sub_self]
  rfl
theorem va_freeA {A0 : Nat → Prop} {W0 wc : va_W} {H0 H : Heap} {locs : List Loc} (hD : va_D A0 (W0 ++ wc)) (hS : va_S A0 H0 H locs) (hA : ∀ q, H0.size ≤ q → A0 q) : ∀ q, va_A wc H.size q → A0 q := by
  intro q h
  rcases h with ⟨k, e, h⟩ | h
  · exact (va_Dr hD).2 k _ h
  · exact hA q (Nat.le_trans hS.1 h)
theorem va_joinA {A0 : Nat → Prop} {D : va_G} {cl : List vw_C} {W0 wc w1 : va_W} {H H1 : Heap} (hP : va_P D cl (W0 ++ wc) H) (hD : va_D A0 (W0 ++ wc)) (hk : ∀ q : Nat, q < H.size → ¬ va_A wc H.size q → H1[q]? = H[q]?) (hF : ∀ q, va_A wc H.size q → A0 q) (hP1 : va_P D cl w1 H1) (hD1 : va_D (va_A wc H.size) w1) : va_P D cl (W0 ++ w1) H1 ∧ va_D A0 (W0 ++ w1) := by
  have out : ∀ (k : Nat) (x : Nat × va_E), W0[k]? = some x → x.1 < H.size ∧ ¬ va_A wc H.size x.1 := by
    intro k x hx
    have lt := ((va_Pl hP) k x hx).lt
    refine ⟨lt, fun h => ?_⟩
    rcases h with ⟨j, e, h⟩ | h
    · exact va_Dx hD k j x _ hx h rfl
    · exact absurd lt (Nat.not_lt.mpr h)
  refine ⟨((va_Pl hP).kept (fun k x hx => hk x.1 (out k x hx).1 (out k x hx).2)).app hP1, (va_Dl hD).app (hD1.weaken (fun _ q _ h => hF q.1 h)) (fun i j p q hi hj hpq => ?_)⟩
  have h := hD1.2 j q hj
  rw [← hpq] at h
  exact (out i p hi).2 h
def va_AOA (ty : FieldType) (U : State) : Prop := (Cond.arrayOver (.array ty)).before #[] U = true
theorem va_AOA.use {ty : FieldType} {A : Array Value} {U : State} (h : va_AOA ty U) : (Cond.arrayOver (.array ty)).before A U = true := h
/-- what constructors ask of the tables beside their words -/
def preC (U : State) : Prop := (va_Nw (.methodLinkNest RX4 24 yX2_init "SoldStops") U ∧ va_Nw (.methodLinkNest RX7 29 yX6_init "SoldStops") U ∧ va_Nw (.methodLinkNest RX7 36 yX5_init "SoldStops") U ∧ va_Nw (.methodLinkNest RX7 43 yX3_init "SoldStops") U ∧ va_Nw (.methodLinkNest RX7 50 yX0_init "SoldStops") U) ∧ va_AO RX2 U ∧ va_AO RX4 U ∧ va_AOA .int U
theorem va_AOA.moved {ty : FieldType} {u U : State} (hvm : u.vm.Alike U.vm) (h : va_AOA ty u) : va_AOA ty U := over_moved hvm h
theorem preC.same {u U : State} (hv : u.vm = U.vm) (h : preC u) : preC U := by
  obtain ⟨⟨a, b, c, d, e⟩, f, g, i⟩ := h
  have al : u.vm.Alike U.vm := by rw [hv]; exact Vm.Alike.refl _
  exact ⟨⟨va_Nw.same rfl hv a, va_Nw.same rfl hv b, va_Nw.same rfl hv c, va_Nw.same rfl hv d, va_Nw.same rfl hv e⟩, f.moved al, g.moved al, i.moved al⟩
theorem preC.warm {s U : State} (hW : s.WarmedH U.vm) (h : preC s) : preC U := by
  obtain ⟨⟨a, b, c, d, e⟩, f, g, i⟩ := h
  exact ⟨⟨va_Nw.warmM hW a, va_Nw.warmM hW b, va_Nw.warmM hW c, va_Nw.warmM hW d, va_Nw.warmM hW e⟩, f.moved hW.alike, g.moved hW.alike, i.moved hW.alike⟩
def ctP (D : va_G) (Y : Nat → ClassId) (ci : Nat) (fs : List Value) (h sz : Nat) : State → Prop := fun U => U.heap.size = sz ∧ va_P D vwCl [(h, .inr (ci, fs))] U.heap ∧ va_K D vwCl (tyL Y) U ∧ va_D (fun _ => True) [(h, .inr (ci, fs))] ∧ preC U
def ctQ (D : va_G) (Y : Nat → ClassId) (ci : Nat) (fs : List Value) (h sz : Nat) {S : Type} (wf : S → va_W) : S → State → Prop := fun u t => va_P D vwCl (wf u) t.heap ∧ va_K D vwCl (tyL Y) t ∧ va_D (va_A [(h, .inr (ci, fs))] sz) (wf u)
section CTR
variable {p : Program} {l : Launch} {e : Env} {R : Room} {s : State} {m : MethodId} {args : Array Value} {below : List Frame} {meth : Method} {c : Code} {H : Heap} {locs : List Loc} {cells slots : Nat} {Q : State → Prop}
variable {cc : ByteArray} {pc : Nat} {ls : Array Slot} {rest : List Value} {D : va_G} {Y : Nat → ClassId} {A : Nat → Prop} {ws W0 : va_W} {H0 : Heap} {own : String} {Ts : List Cond}
theorem nwI (hexec : p.tables.exec = Jvm.exec) (hb : c.code = cc) (harr : (Cond.arrayClass .int).before args s = true) (hK : va_K D vwCl (tyL Y) s) (hP : va_P D vwCl ws H) (hD : va_D A ws) (hS : va_S A H0 H locs) (hA : ∀ q, H0.size ≤ q → A q) {n : Int32} {N' : Nat} (hn : ¬ n < 0) (hN : n.toNatClampNeg = N') (hbytes : N' * componentBytes .int ≤ 536870912) (hcells : cells + 1 ≤ R.cells) (hslots : slots + N' ≤ R.slots) (hdg : decode cc pc = .ok (.newarray .int, 2))
    (kk : ∀ (q : Nat) (H1 : Heap), va_P D vwCl (ws ++ [(q, .inl (Y 0, N', .inl (fun _ => 0)))]) H1 → va_D A (ws ++ [(q, .inl (Y 0, N', .inl (fun _ => 0)))]) → va_S A H0 H1 locs → W p l e R s m args below meth c H1 locs (cells + 1) (slots + N') Q (F0 m (pc + 2) ls (.ref q :: rest))) : W p l e R s m args below meth c H locs cells slots Q (F0 m pc ls (.int n :: rest)) := by
  refine va_newa (atype := .int) (ty := .int) (a0 := (N', .inl (fun _ => 0))) hexec hb harr rfl hK hP hD hS hA (fun cA => rfl) hn hN hbytes hcells hslots hdg (fun q cA H1 hK1 hP1 hD1 hS1 => ?_)
  have ec : cA = Y 0 := yK (i := 6) (j := 0) hK1 rfl rfl
  subst ec
  exact kk q H1 hP1 hD1 hS1
theorem nwZ (hexec : p.tables.exec = Jvm.exec) (hb : c.code = cc) (harr : (Cond.arrayClass .boolean).before args s = true) (hK : va_K D vwCl (tyL Y) s) (hP : va_P D vwCl ws H) (hD : va_D A ws) (hS : va_S A H0 H locs) (hA : ∀ q, H0.size ≤ q → A q) {n : Int32} {N' : Nat} (hn : ¬ n < 0) (hN : n.toNatClampNeg = N') (hbytes : N' * componentBytes .boolean ≤ 536870912) (hcells : cells + 1 ≤ R.cells) (hslots : slots + N' ≤ R.slots) (hdg : decode cc pc = .ok (.newarray .boolean, 2))
    (kk : ∀ (q : Nat) (H1 : Heap), va_P D vwCl (ws ++ [(q, .inl (Y 2, N', .inl (fun _ => 0)))]) H1 → va_D A (ws ++ [(q, .inl (Y 2, N', .inl (fun _ => 0)))]) → va_S A H0 H1 locs → W p l e R s m args below meth c H1 locs (cells + 1) (slots + N') Q (F0 m (pc + 2) ls (.ref q :: rest))) : W p l e R s m args below meth c H locs cells slots Q (F0 m pc ls (.int n :: rest)) := by
  refine va_newa (atype := .boolean) (ty := .boolean) (a0 := (N', .inl (fun _ => 0))) hexec hb harr rfl hK hP hD hS hA (fun cA => rfl) hn hN hbytes hcells hslots hdg (fun q cA H1 hK1 hP1 hD1 hS1 => ?_)
  have ec : cA = Y 2 := yK (i := 6) (j := 2) hK1 rfl rfl
  subst ec
  exact kk q H1 hP1 hD1 hS1
theorem nwL (hexec : p.tables.exec = Jvm.exec) (hb : c.code = cc) (harr : (Cond.arrayClass .long).before args s = true) (hK : va_K D vwCl (tyL Y) s) (hP : va_P D vwCl ws H) (hD : va_D A ws) (hS : va_S A H0 H locs) (hA : ∀ q, H0.size ≤ q → A q) {n : Int32} {N' : Nat} (hn : ¬ n < 0) (hN : n.toNatClampNeg = N') (hbytes : N' * componentBytes .long ≤ 536870912) (hcells : cells + 1 ≤ R.cells) (hslots : slots + N' ≤ R.slots) (hdg : decode cc pc = .ok (.newarray .long, 2))
    (kk : ∀ (q : Nat) (H1 : Heap), va_P D vwCl (ws ++ [(q, .inl (Y 1, N', .inr (.inl (fun _ => 0))))]) H1 → va_D A (ws ++ [(q, .inl (Y 1, N', .inr (.inl (fun _ => 0))))]) → va_S A H0 H1 locs → W p l e R s m args below meth c H1 locs (cells + 1) (slots + N') Q (F0 m (pc + 2) ls (.ref q :: rest))) : W p l e R s m args below meth c H locs cells slots Q (F0 m pc ls (.int n :: rest)) := by
  refine va_newa (atype := .long) (ty := .long) (a0 := (N', .inr (.inl (fun _ => 0)))) hexec hb harr rfl hK hP hD hS hA (fun cA => rfl) hn hN hbytes hcells hslots hdg (fun q cA H1 hK1 hP1 hD1 hS1 => ?_)
  have ec : cA = Y 1 := yK (i := 6) (j := 1) hK1 rfl rfl
  subst ec
  exact kk q H1 hP1 hD1 hS1
theorem nwQ {C : String} {t0 : Nat} {cY : ClassId} (ht0 : t0 < 6) (hexec : p.tables.exec = Jvm.exec) (hb : c.code = cc) {index : Nat} (hown : s.vm.findClass own = some m.cls) (hclink : (Cond.classLink own index C).before args s = true) (hover : va_AO C s) (hY : (tyL Y)[t0]? = some (cY, .object C)) (hK : va_K D vwCl (tyL Y) s) (hP : va_P D vwCl ws H) (hD : va_D A ws) (hS : va_S A H0 H locs) (hA : ∀ q, H0.size ≤ q → A q) {n : Int32} {N' : Nat} (hn : ¬ n < 0) (hN : n.toNatClampNeg = N') (hbytes : N' * 4 ≤ 536870912) (hcells : cells + 1 ≤ R.cells) (hslots : slots + N' ≤ R.slots) (hdg : decode cc pc = .ok (.anewarray index, 3))
    (kk : ∀ (q : Nat) (H1 : Heap), va_P D vwCl (ws ++ [(q, .inl (cY, N', .inr (.inr (.inr (.inr (fun _ => none))))))]) H1 → va_D A (ws ++ [(q, .inl (cY, N', .inr (.inr (.inr (.inr (fun _ => none))))))]) → va_S A H0 H1 locs → W p l e R s m args below meth c H1 locs (cells + 1) (slots + N') Q (F0 m (pc + 3) ls (.ref q :: rest))) : W p l e R s m args below meth c H locs cells slots Q (F0 m pc ls (.int n :: rest)) := by
  refine va_newq hexec hb hown hclink hover hK hP hD hS hA hn hN hbytes hcells hslots hdg (fun q cA H1 hK1 hP1 hD1 hS1 => ?_)
  have ec : cA = cY := yK (i := 6) (j := t0) hK1 rfl (by rw [List.getElem?_append_left (by exact ht0)]; exact hY)
  subst ec
  exact kk q H1 hP1 hD1 hS1
theorem ct_pre {ci q : Nat} {fs : List Value} (hP : va_P D vwCl (W0 ++ [(q, .inr (ci, fs))]) H) (hD : va_D A (W0 ++ [(q, .inr (ci, fs))])) (hK : va_K D vwCl (tyL Y) s) (hC : preC s) : PreS s H (va_Pc [.ref q] (ctP D Y ci fs q H.size)) [.ref q] :=
  ⟨fun a U g mk z => by obtain ⟨q0, q1, qP, qK, qD, qC⟩ := z; exact ⟨q0, q1, qP, va_K.moved (u := U) (U := U.calling g mk a) (Vm.Alike.refl U.vm) qK, qD, preC.same (u := U) (U := U.calling g mk a) rfl qC⟩, fun U hU hW => ⟨rfl, by rw [hU], by rw [hU]; exact va_Pr hP, va_K.moved hW.alike hK, (va_Dr hD).weaken (fun _ _ _ _ => trivial), preC.warm hW hC⟩⟩
/-- a constructor is called on the newest cell -/
theorem cI {nL index maxL mc ms : Nat} {y : MethodName} {bytes : ByteArray} {ws9 : List Cond} {rm : Room} {ci q : Nat} {fs : List Value} {S : Type} {wf : S → va_W} (F : CallFix p m c cc nL s args Ts own) (hM : Met l y ws9 rm (va_Pc [.ref q] (ctP D Y ci fs q H.size)) (va_Qv (fun _ : S => True) (ctQ D Y ci fs q H.size wf) (va_A [(q, .inr (ci, fs))] H.size)) mc ms (va_A [(q, .inr (ci, fs))] H.size)) (cw : CallB R s args own index y bytes maxL none ws9 rm mc ms 0 ∧ y.name = "<init>" ∧ (Cond.instanceMethod y).before args s = true)
    (hK : va_K D vwCl (tyL Y) s) (hC : preC s) (hP : va_P D vwCl (W0 ++ [(q, .inr (ci, fs))]) H) (hD : va_D A (W0 ++ [(q, .inr (ci, fs))])) (hS : va_S A H0 H locs) (hA : ∀ q, H0.size ≤ q → A q) (hsz : ls.size = nL) (hR : (rest.map fun v => v.category).sum ≤ 8) (hcs : cells + mc ≤ R.cells ∧ slots + ms ≤ R.slots) (hdg : decode cc pc = .ok (.invokespecial index, 3))
    (kk : ∀ (u : S) (H1 : Heap) (locs1 : List Loc), va_P D vwCl (W0 ++ wf u) H1 → va_D A (W0 ++ wf u) → va_S A H0 H1 locs1 → W p l e R s m args below meth c H1 locs1 (cells + mc) (slots + ms) Q (F0 m (pc + 3) ls rest)) : W p l e R s m args below meth c H locs cells slots Q (F0 m pc ls (.ref q :: rest)) :=
  va_callv (va_runI (As := []) (rest := rest) (g := F0 m pc ls (.ref q :: rest)) F hM cw (ct_pre hP hD hK hC) rfl rfl hsz rfl (lv_room hR) hdg hcs) hS (fun q _ h => va_freeA hD hS hA q h) (va_freeA hD hS hA) (fun u t H1 locs1 ht hvm hp hB hz hk1 hS1 => by
    obtain ⟨b1, b2, b3⟩ := hB
    rw [ht] at b1
    obtain ⟨j1, j2⟩ := va_joinA hP hD hk1 (va_freeA hD hS hA) b1 b3
    exact kk u H1 locs1 j1 j2 hS1)
theorem cN {nL index maxL mc ms : Nat} {y : MethodName} {bytes : ByteArray} {ws9 : List Cond} {rm : Room} {host : String} {ci q : Nat} {fs : List Value} {S : Type} {wf : S → va_W} (F : CallFix p m c cc nL s args Ts own) (hM : Met l y ws9 rm (va_Pc [.ref q] (ctP D Y ci fs q H.size)) (va_Qv (fun _ : S => True) (ctQ D Y ci fs q H.size wf) (va_A [(q, .inr (ci, fs))] H.size)) mc ms (va_A [(q, .inr (ci, fs))] H.size)) (cw : va_CN R s args own index y host bytes maxL none ws9 rm mc ms 0 ∧ y.name = "<init>" ∧ (Cond.instanceMethod y).before args s = true)
    (hK : va_K D vwCl (tyL Y) s) (hC : preC s) (hP : va_P D vwCl (W0 ++ [(q, .inr (ci, fs))]) H) (hD : va_D A (W0 ++ [(q, .inr (ci, fs))])) (hS : va_S A H0 H locs) (hA : ∀ q, H0.size ≤ q → A q) (hsz : ls.size = nL) (hR : (rest.map fun v => v.category).sum ≤ 8) (hcs : cells + mc ≤ R.cells ∧ slots + ms ≤ R.slots) (hdg : decode cc pc = .ok (.invokespecial index, 3))
    (kk : ∀ (u : S) (H1 : Heap) (locs1 : List Loc), va_P D vwCl (W0 ++ wf u) H1 → va_D A (W0 ++ wf u) → va_S A H0 H1 locs1 → W p l e R s m args below meth c H1 locs1 (cells + mc) (slots + ms) Q (F0 m (pc + 3) ls rest)) : W p l e R s m args below meth c H locs cells slots Q (F0 m pc ls (.ref q :: rest)) :=
  va_callv (va_runIN (As := []) (rest := rest) (g := F0 m pc ls (.ref q :: rest)) F hM cw (ct_pre hP hD hK hC) rfl rfl hsz rfl (lv_room hR) hdg hcs) hS (fun q _ h => va_freeA hD hS hA q h) (va_freeA hD hS hA) (fun u t H1 locs1 ht hvm hp hB hz hk1 hS1 => by
    obtain ⟨b1, b2, b3⟩ := hB
    rw [ht] at b1
    obtain ⟨j1, j2⟩ := va_joinA hP hD hk1 (va_freeA hD hS hA) b1 b3
    exact kk u H1 locs1 j1 j2 hS1)
end CTR
def mW (Y : Nat → ClassId) (h k r : Nat) : va_W := [(h, .inr (1, [.int 0, .int 0, .ref k, .ref r])), (k, .inl (Y 0, 12, .inl (fun _ => 0))), (r, .inl (Y 0, 12, .inl (fun _ => 0)))]
